theorem dX12_logLine_152 : decode cX12_logLine 152 = .ok (.iastore, 1) := by decide +kernel
theorem dX12_logLine_153 : decode cX12_logLine 153 = .ok (.aload_n 0, 1) := by decide +kernel
theorem dX12_logLine_154 : decode cX12_logLine 154 = .ok (.getfield 35, 3) := by decide +kernel
theorem dX12_logLine_157 : decode cX12_logLine 157 = .ok (.iconst 3, 1) := by decide +kernel
theorem dX12_logLine_158 : decode cX12_logLine 158 = .ok (.iconst 2, 1) := by decide +kernel
theorem dX12_logLine_159 : decode cX12_logLine 159 = .ok (.iload 4, 2) := by decide +kernel
theorem dX12_logLine_161 : decode cX12_logLine 161 = .ok (.imul, 1) := by decide +kernel
theorem dX12_logLine_162 : decode cX12_logLine 162 = .ok (.iadd, 1) := by decide +kernel
theorem dX12_logLine_163 : decode cX12_logLine 163 = .ok (.aload_n 0, 1) := by decide +kernel
theorem dX12_logLine_164 : decode cX12_logLine 164 = .ok (.getfield 38, 3) := by decide +kernel
theorem dX12_logLine_167 : decode cX12_logLine 167 = .ok (.iconst 1, 1) := by decide +kernel
theorem dX12_logLine_168 : decode cX12_logLine 168 = .ok (.iaload, 1) := by decide +kernel
theorem dX12_logLine_169 : decode cX12_logLine 169 = .ok (.iastore, 1) := by decide +kernel
theorem dX12_logLine_170 : decode cX12_logLine 170 = .ok (.aload_n 0, 1) := by decide +kernel
theorem dX12_logLine_171 : decode cX12_logLine 171 = .ok (.getfield 35, 3) := by decide +kernel
theorem dX12_logLine_174 : decode cX12_logLine 174 = .ok (.iconst 1, 1) := by decide +kernel
theorem dX12_logLine_175 : decode cX12_logLine 175 = .ok (.dup2, 1) := by decide +kernel
theorem dX12_logLine_176 : decode cX12_logLine 176 = .ok (.iaload, 1) := by decide +kernel
theorem dX12_logLine_177 : decode cX12_logLine 177 = .ok (.iconst 1, 1) := by decide +kernel
theorem dX12_logLine_178 : decode cX12_logLine 178 = .ok (.iadd, 1) := by decide +kernel
theorem dX12_logLine_179 : decode cX12_logLine 179 = .ok (.iastore, 1) := by decide +kernel
theorem dX12_logLine_180 : decode cX12_logLine 180 = .ok (.iconst 1, 1) := by decide +kernel
theorem dX12_logLine_181 : decode cX12_logLine 181 = .ok (.ireturn, 1) := by decide +kernel
theorem dX12_allLines_0 : decode cX12_allLines 0 = .ok (.iconst 1, 1) := by decide +kernel
theorem dX12_allLines_1 : decode cX12_allLines 1 = .ok (.istore_n 2, 1) := by decide +kernel
theorem dX12_allLines_2 : decode cX12_allLines 2 = .ok (.iload_n 2, 1) := by decide +kernel
theorem dX12_allLines_3 : decode cX12_allLines 3 = .ok (.ifCond .eq 103, 3) := by decide +kernel
theorem dX12_allLines_6 : decode cX12_allLines 6 = .ok (.aload_n 0, 1) := by decide +kernel
theorem dX12_allLines_7 : decode cX12_allLines 7 = .ok (.getfield 109, 3) := by decide +kernel
theorem dX12_allLines_10 : decode cX12_allLines 10 = .ok (.ifCond .eq 96, 3) := by decide +kernel
theorem dX12_allLines_13 : decode cX12_allLines 13 = .ok (.aload_n 0, 1) := by decide +kernel
theorem dX12_allLines_14 : decode cX12_allLines 14 = .ok (.getfield 102, 3) := by decide +kernel
theorem dX12_allLines_17 : decode cX12_allLines 17 = .ok (.istore_n 3, 1) := by decide +kernel
theorem dX12_allLines_18 : decode cX12_allLines 18 = .ok (.aload_n 0, 1) := by decide +kernel
theorem dX12_allLines_19 : decode cX12_allLines 19 = .ok (.getfield 109, 3) := by decide +kernel
theorem dX12_allLines_22 : decode cX12_allLines 22 = .ok (.iconst 2, 1) := by decide +kernel
theorem dX12_allLines_23 : decode cX12_allLines 23 = .ok (.if_icmp .ne 10, 3) := by decide +kernel
theorem dX12_allLines_26 : decode cX12_allLines 26 = .ok (.aload_n 0, 1) := by decide +kernel
theorem dX12_allLines_27 : decode cX12_allLines 27 = .ok (.getfield 105, 3) := by decide +kernel
theorem dX12_allLines_30 : decode cX12_allLines 30 = .ok (.goto 4, 3) := by decide +kernel
theorem dX12_allLines_33 : decode cX12_allLines 33 = .ok (.lconst 0, 1) := by decide +kernel
theorem dX12_allLines_34 : decode cX12_allLines 34 = .ok (.lstore 4, 2) := by decide +kernel
theorem dX12_allLines_36 : decode cX12_allLines 36 = .ok (.aload_n 0, 1) := by decide +kernel
theorem dX12_allLines_37 : decode cX12_allLines 37 = .ok (.iconst 1, 1) := by decide +kernel
theorem dX12_allLines_38 : decode cX12_allLines 38 = .ok (.putfield 132, 3) := by decide +kernel
theorem dX12_allLines_41 : decode cX12_allLines 41 = .ok (.iload_n 1, 1) := by decide +kernel
theorem dX12_allLines_42 : decode cX12_allLines 42 = .ok (.ifCond .ne 13, 3) := by decide +kernel
theorem dX12_allLines_45 : decode cX12_allLines 45 = .ok (.aload_n 0, 1) := by decide +kernel
theorem dX12_allLines_46 : decode cX12_allLines 46 = .ok (.lload 4, 2) := by decide +kernel
theorem dX12_allLines_48 : decode cX12_allLines 48 = .ok (.iload_n 3, 1) := by decide +kernel
theorem dX12_allLines_49 : decode cX12_allLines 49 = .ok (.invokevirtual 218, 3) := by decide +kernel
theorem dX12_allLines_52 : decode cX12_allLines 52 = .ok (.goto 25, 3) := by decide +kernel
theorem dX12_allLines_55 : decode cX12_allLines 55 = .ok (.iload_n 1, 1) := by decide +kernel
theorem dX12_allLines_56 : decode cX12_allLines 56 = .ok (.iconst 1, 1) := by decide +kernel
theorem dX12_allLines_57 : decode cX12_allLines 57 = .ok (.if_icmp .ne 13, 3) := by decide +kernel
theorem dX12_allLines_60 : decode cX12_allLines 60 = .ok (.aload_n 0, 1) := by decide +kernel
theorem dX12_allLines_61 : decode cX12_allLines 61 = .ok (.lload 4, 2) := by decide +kernel
theorem dX12_allLines_63 : decode cX12_allLines 63 = .ok (.iload_n 3, 1) := by decide +kernel
theorem dX12_allLines_64 : decode cX12_allLines 64 = .ok (.invokevirtual 222, 3) := by decide +kernel
theorem dX12_allLines_67 : decode cX12_allLines 67 = .ok (.goto 10, 3) := by decide +kernel
theorem dX12_allLines_70 : decode cX12_allLines 70 = .ok (.aload_n 0, 1) := by decide +kernel
theorem dX12_allLines_71 : decode cX12_allLines 71 = .ok (.lload 4, 2) := by decide +kernel
theorem dX12_allLines_73 : decode cX12_allLines 73 = .ok (.iload_n 3, 1) := by decide +kernel
theorem dX12_allLines_74 : decode cX12_allLines 74 = .ok (.invokevirtual 225, 3) := by decide +kernel
theorem dX12_allLines_77 : decode cX12_allLines 77 = .ok (.istore_n 2, 1) := by decide +kernel
theorem dX12_allLines_78 : decode cX12_allLines 78 = .ok (.iload_n 2, 1) := by decide +kernel
theorem dX12_allLines_79 : decode cX12_allLines 79 = .ok (.ifCond .eq 16, 3) := by decide +kernel
theorem dX12_allLines_82 : decode cX12_allLines 82 = .ok (.aload_n 0, 1) := by decide +kernel
theorem dX12_allLines_83 : decode cX12_allLines 83 = .ok (.getfield 109, 3) := by decide +kernel
theorem dX12_allLines_86 : decode cX12_allLines 86 = .ok (.iconst 4, 1) := by decide +kernel
theorem dX12_allLines_87 : decode cX12_allLines 87 = .ok (.if_icmp .eq 8, 3) := by decide +kernel
theorem dX12_allLines_90 : decode cX12_allLines 90 = .ok (.aload_n 0, 1) := by decide +kernel
theorem dX12_allLines_91 : decode cX12_allLines 91 = .ok (.invokevirtual 124, 3) := by decide +kernel
theorem dX12_allLines_94 : decode cX12_allLines 94 = .ok (.istore_n 2, 1) := by decide +kernel
theorem dX12_allLines_95 : decode cX12_allLines 95 = .ok (.iload_n 2, 1) := by decide +kernel
theorem dX12_allLines_96 : decode cX12_allLines 96 = .ok (.ifCond .eq 7, 3) := by decide +kernel
theorem dX12_allLines_99 : decode cX12_allLines 99 = .ok (.aload_n 0, 1) := by decide +kernel
theorem dX12_allLines_100 : decode cX12_allLines 100 = .ok (.invokevirtual 136, 3) := by decide +kernel
theorem dX12_allLines_103 : decode cX12_allLines 103 = .ok (.goto (-101), 3) := by decide +kernel
theorem dX12_allLines_106 : decode cX12_allLines 106 = .ok (.iload_n 2, 1) := by decide +kernel
theorem dX12_allLines_107 : decode cX12_allLines 107 = .ok (.ireturn, 1) := by decide +kernel
theorem dX12_readText_0 : decode cX12_readText 0 = .ok (.iconst 0, 1) := by decide +kernel
theorem dX12_readText_1 : decode cX12_readText 1 = .ok (.istore_n 2, 1) := by decide +kernel
theorem dX12_readText_2 : decode cX12_readText 2 = .ok (.iload_n 2, 1) := by decide +kernel
theorem dX12_readText_3 : decode cX12_readText 3 = .ok (.sipush 161, 3) := by decide +kernel
theorem dX12_readText_6 : decode cX12_readText 6 = .ok (.if_icmp .ge 29, 3) := by decide +kernel
theorem dX12_readText_9 : decode cX12_readText 9 = .ok (.aload_n 0, 1) := by decide +kernel
theorem dX12_readText_10 : decode cX12_readText 10 = .ok (.getfield 35, 3) := by decide +kernel
theorem dX12_readText_13 : decode cX12_readText 13 = .ok (.iload_n 2, 1) := by decide +kernel
theorem dX12_readText_14 : decode cX12_readText 14 = .ok (.iload_n 1, 1) := by decide +kernel
theorem dX12_readText_15 : decode cX12_readText 15 = .ok (.ifCond .ne 12, 3) := by decide +kernel
theorem dX12_readText_18 : decode cX12_readText 18 = .ok (.iload_n 2, 1) := by decide +kernel
theorem dX12_readText_19 : decode cX12_readText 19 = .ok (.iconst 2, 1) := by decide +kernel
theorem dX12_readText_20 : decode cX12_readText 20 = .ok (.if_icmp .ge 7, 3) := by decide +kernel
theorem dX12_readText_23 : decode cX12_readText 23 = .ok (.iconst 5, 1) := by decide +kernel
theorem dX12_readText_24 : decode cX12_readText 24 = .ok (.goto 4, 3) := by decide +kernel
theorem dX12_readText_27 : decode cX12_readText 27 = .ok (.iconst 0, 1) := by decide +kernel
theorem dX12_readText_28 : decode cX12_readText 28 = .ok (.iastore, 1) := by decide +kernel
theorem dX12_readText_29 : decode cX12_readText 29 = .ok (.iinc 2 1, 3) := by decide +kernel
theorem dX12_readText_32 : decode cX12_readText 32 = .ok (.goto (-30), 3) := by decide +kernel
theorem dX12_readText_35 : decode cX12_readText 35 = .ok (.aload_n 0, 1) := by decide +kernel
theorem dX12_readText_36 : decode cX12_readText 36 = .ok (.iconst (-1), 1) := by decide +kernel
theorem dX12_readText_37 : decode cX12_readText 37 = .ok (.putfield 150, 3) := by decide +kernel
theorem dX12_readText_40 : decode cX12_readText 40 = .ok (.aload_n 0, 1) := by decide +kernel
theorem dX12_readText_41 : decode cX12_readText 41 = .ok (.iconst 0, 1) := by decide +kernel
theorem dX12_readText_42 : decode cX12_readText 42 = .ok (.putfield 92, 3) := by decide +kernel
theorem dX12_readText_45 : decode cX12_readText 45 = .ok (.aload_n 0, 1) := by decide +kernel
theorem dX12_readText_46 : decode cX12_readText 46 = .ok (.iconst 0, 1) := by decide +kernel
theorem dX12_readText_47 : decode cX12_readText 47 = .ok (.putfield 118, 3) := by decide +kernel
theorem dX12_readText_50 : decode cX12_readText 50 = .ok (.aload_n 0, 1) := by decide +kernel
theorem dX12_readText_51 : decode cX12_readText 51 = .ok (.invokevirtual 136, 3) := by decide +kernel
theorem dX12_readText_54 : decode cX12_readText 54 = .ok (.aload_n 0, 1) := by decide +kernel
theorem dX12_readText_55 : decode cX12_readText 55 = .ok (.iload_n 1, 1) := by decide +kernel
theorem dX12_readText_56 : decode cX12_readText 56 = .ok (.invokevirtual 228, 3) := by decide +kernel
theorem dX12_readText_59 : decode cX12_readText 59 = .ok (.istore_n 2, 1) := by decide +kernel
theorem dX12_readText_60 : decode cX12_readText 60 = .ok (.iload_n 2, 1) := by decide +kernel
theorem dX12_readText_61 : decode cX12_readText 61 = .ok (.ifCond .eq 36, 3) := by decide +kernel
theorem dX12_readText_64 : decode cX12_readText 64 = .ok (.iload_n 1, 1) := by decide +kernel
theorem dX12_readText_65 : decode cX12_readText 65 = .ok (.ifCond .ne 32, 3) := by decide +kernel
theorem dX12_readText_68 : decode cX12_readText 68 = .ok (.aload_n 0, 1) := by decide +kernel
theorem dX12_readText_69 : decode cX12_readText 69 = .ok (.getfield 118, 3) := by decide +kernel
theorem dX12_readText_72 : decode cX12_readText 72 = .ok (.ifCond .ne 25, 3) := by decide +kernel
theorem dX12_readText_75 : decode cX12_readText 75 = .ok (.aload_n 0, 1) := by decide +kernel
theorem dX12_readText_76 : decode cX12_readText 76 = .ok (.getfield 150, 3) := by decide +kernel
theorem dX12_readText_79 : decode cX12_readText 79 = .ok (.aload_n 0, 1) := by decide +kernel
theorem dX12_readText_80 : decode cX12_readText 80 = .ok (.getfield 35, 3) := by decide +kernel
theorem dX12_readText_83 : decode cX12_readText 83 = .ok (.iconst 4, 1) := by decide +kernel
theorem dX12_readText_84 : decode cX12_readText 84 = .ok (.iaload, 1) := by decide +kernel
theorem dX12_readText_85 : decode cX12_readText 85 = .ok (.if_icmp .lt 12, 3) := by decide +kernel
theorem dX12_readText_88 : decode cX12_readText 88 = .ok (.aload_n 0, 1) := by decide +kernel
theorem dX12_readText_89 : decode cX12_readText 89 = .ok (.iconst 4, 1) := by decide +kernel
theorem dX12_readText_90 : decode cX12_readText 90 = .ok (.aload_n 0, 1) := by decide +kernel
theorem dX12_readText_91 : decode cX12_readText 91 = .ok (.getfield 102, 3) := by decide +kernel
theorem dX12_readText_94 : decode cX12_readText 94 = .ok (.invokevirtual 128, 3) := by decide +kernel
theorem dX12_readText_97 : decode cX12_readText 97 = .ok (.aload_n 0, 1) := by decide +kernel
theorem dX12_readText_98 : decode cX12_readText 98 = .ok (.getfield 17, 3) := by decide +kernel
theorem dX12_readText_101 : decode cX12_readText 101 = .ok (.iconst 0, 1) := by decide +kernel
theorem dX12_readText_102 : decode cX12_readText 102 = .ok (.iload_n 2, 1) := by decide +kernel
theorem dX12_readText_103 : decode cX12_readText 103 = .ok (.ifCond .eq 10, 3) := by decide +kernel
theorem dX12_readText_106 : decode cX12_readText 106 = .ok (.aload_n 0, 1) := by decide +kernel
theorem dX12_readText_107 : decode cX12_readText 107 = .ok (.getfield 118, 3) := by decide +kernel
theorem dX12_readText_110 : decode cX12_readText 110 = .ok (.goto 4, 3) := by decide +kernel
theorem dX12_readText_113 : decode cX12_readText 113 = .ok (.iconst 1, 1) := by decide +kernel
theorem dX12_readText_114 : decode cX12_readText 114 = .ok (.iastore, 1) := by decide +kernel
theorem dX12_readText_115 : decode cX12_readText 115 = .ok (.aload_n 0, 1) := by decide +kernel
theorem dX12_readText_116 : decode cX12_readText 116 = .ok (.getfield 20, 3) := by decide +kernel
theorem dX12_readText_119 : decode cX12_readText 119 = .ok (.iconst 0, 1) := by decide +kernel
theorem dX12_readText_120 : decode cX12_readText 120 = .ok (.iload_n 2, 1) := by decide +kernel
theorem dX12_readText_121 : decode cX12_readText 121 = .ok (.ifCond .ne 10, 3) := by decide +kernel
theorem dX12_readText_124 : decode cX12_readText 124 = .ok (.aload_n 0, 1) := by decide +kernel
theorem dX12_readText_125 : decode cX12_readText 125 = .ok (.getfield 115, 3) := by decide +kernel
theorem dX12_readText_128 : decode cX12_readText 128 = .ok (.goto 18, 3) := by decide +kernel
theorem dX12_readText_131 : decode cX12_readText 131 = .ok (.aload_n 0, 1) := by decide +kernel
theorem dX12_readText_132 : decode cX12_readText 132 = .ok (.getfield 118, 3) := by decide +kernel
theorem dX12_readText_135 : decode cX12_readText 135 = .ok (.ifCond .le 10, 3) := by decide +kernel
theorem dX12_readText_138 : decode cX12_readText 138 = .ok (.aload_n 0, 1) := by decide +kernel
theorem dX12_readText_139 : decode cX12_readText 139 = .ok (.getfield 121, 3) := by decide +kernel
theorem dX12_readText_142 : decode cX12_readText 142 = .ok (.goto 4, 3) := by decide +kernel
theorem dX12_readText_145 : decode cX12_readText 145 = .ok (.iconst (-1), 1) := by decide +kernel
theorem dX12_readText_146 : decode cX12_readText 146 = .ok (.iastore, 1) := by decide +kernel
theorem dX12_readText_147 : decode cX12_readText 147 = .ok (.aload_n 0, 1) := by decide +kernel
theorem dX12_readText_148 : decode cX12_readText 148 = .ok (.getfield 17, 3) := by decide +kernel
theorem dX12_readText_151 : decode cX12_readText 151 = .ok (.iconst 0, 1) := by decide +kernel
theorem dX12_readText_152 : decode cX12_readText 152 = .ok (.iaload, 1) := by decide +kernel
theorem dX12_readText_153 : decode cX12_readText 153 = .ok (.ifCond .ne 7, 3) := by decide +kernel
theorem dX12_readText_156 : decode cX12_readText 156 = .ok (.iconst 1, 1) := by decide +kernel
theorem dX12_readText_157 : decode cX12_readText 157 = .ok (.goto 4, 3) := by decide +kernel
theorem dX12_readText_160 : decode cX12_readText 160 = .ok (.iconst 0, 1) := by decide +kernel
theorem dX12_readText_161 : decode cX12_readText 161 = .ok (.ireturn, 1) := by decide +kernel
theorem dX12_store_0 : decode cX12_store 0 = .ok (.iconst 0, 1) := by decide +kernel
theorem dX12_store_1 : decode cX12_store 1 = .ok (.istore 4, 2) := by decide +kernel
theorem dX12_store_3 : decode cX12_store 3 = .ok (.iload 4, 2) := by decide +kernel
theorem dX12_store_5 : decode cX12_store 5 = .ok (.iload_n 2, 1) := by decide +kernel
theorem dX12_store_6 : decode cX12_store 6 = .ok (.if_icmp .ge 24, 3) := by decide +kernel
theorem dX12_store_9 : decode cX12_store 9 = .ok (.aload_n 1, 1) := by decide +kernel
theorem dX12_store_10 : decode cX12_store 10 = .ok (.iload_n 2, 1) := by decide +kernel
theorem dX12_store_11 : decode cX12_store 11 = .ok (.iload_n 3, 1) := by decide +kernel
theorem dX12_store_12 : decode cX12_store 12 = .ok (.imul, 1) := by decide +kernel
theorem dX12_store_13 : decode cX12_store 13 = .ok (.iload 4, 2) := by decide +kernel
theorem dX12_store_15 : decode cX12_store 15 = .ok (.iadd, 1) := by decide +kernel
theorem dX12_store_16 : decode cX12_store 16 = .ok (.aload_n 0, 1) := by decide +kernel
theorem dX12_store_17 : decode cX12_store 17 = .ok (.getfield 35, 3) := by decide +kernel
theorem dX12_store_20 : decode cX12_store 20 = .ok (.iload 4, 2) := by decide +kernel
theorem dX12_store_22 : decode cX12_store 22 = .ok (.iaload, 1) := by decide +kernel
theorem dX12_store_23 : decode cX12_store 23 = .ok (.iastore, 1) := by decide +kernel
theorem dX12_store_24 : decode cX12_store 24 = .ok (.iinc 4 1, 3) := by decide +kernel
theorem dX12_store_27 : decode cX12_store 27 = .ok (.goto (-24), 3) := by decide +kernel
theorem dX12_store_30 : decode cX12_store 30 = .ok (.return_, 1) := by decide +kernel
theorem dX12_text_0 : decode cX12_text 0 = .ok (.aload_n 0, 1) := by decide +kernel
theorem dX12_text_1 : decode cX12_text 1 = .ok (.iconst 0, 1) := by decide +kernel
theorem dX12_text_2 : decode cX12_text 2 = .ok (.putfield 72, 3) := by decide +kernel
theorem dX12_text_5 : decode cX12_text 5 = .ok (.aload_n 0, 1) := by decide +kernel
theorem dX12_text_6 : decode cX12_text 6 = .ok (.aload_n 0, 1) := by decide +kernel
theorem dX12_text_7 : decode cX12_text 7 = .ok (.getfield 13, 3) := by decide +kernel
theorem dX12_text_10 : decode cX12_text 10 = .ok (.iconst 0, 1) := by decide +kernel
theorem dX12_text_11 : decode cX12_text 11 = .ok (.iaload, 1) := by decide +kernel
theorem dX12_text_12 : decode cX12_text 12 = .ok (.putfield 95, 3) := by decide +kernel
theorem dX12_text_15 : decode cX12_text 15 = .ok (.aload_n 0, 1) := by decide +kernel
theorem dX12_text_16 : decode cX12_text 16 = .ok (.getfield 13, 3) := by decide +kernel
theorem dX12_text_19 : decode cX12_text 19 = .ok (.iconst 0, 1) := by decide +kernel
theorem dX12_text_20 : decode cX12_text 20 = .ok (.iconst 0, 1) := by decide +kernel
theorem dX12_text_21 : decode cX12_text 21 = .ok (.iastore, 1) := by decide +kernel
theorem dX12_text_22 : decode cX12_text 22 = .ok (.aload_n 0, 1) := by decide +kernel
theorem dX12_text_23 : decode cX12_text 23 = .ok (.getfield 17, 3) := by decide +kernel
theorem dX12_text_26 : decode cX12_text 26 = .ok (.iconst 0, 1) := by decide +kernel
theorem dX12_text_27 : decode cX12_text 27 = .ok (.iconst 0, 1) := by decide +kernel
theorem dX12_text_28 : decode cX12_text 28 = .ok (.iastore, 1) := by decide +kernel
theorem dX12_text_29 : decode cX12_text 29 = .ok (.aload_n 0, 1) := by decide +kernel
theorem dX12_text_30 : decode cX12_text 30 = .ok (.getfield 20, 3) := by decide +kernel
theorem dX12_text_33 : decode cX12_text 33 = .ok (.iconst 0, 1) := by decide +kernel
theorem dX12_text_34 : decode cX12_text 34 = .ok (.iconst (-1), 1) := by decide +kernel
theorem dX12_text_35 : decode cX12_text 35 = .ok (.iastore, 1) := by decide +kernel
theorem dX12_text_36 : decode cX12_text 36 = .ok (.iload_n 1, 1) := by decide +kernel
theorem dX12_text_37 : decode cX12_text 37 = .ok (.iconst 0, 1) := by decide +kernel
theorem dX12_text_38 : decode cX12_text 38 = .ok (.iconst 2, 1) := by decide +kernel
theorem dX12_text_39 : decode cX12_text 39 = .ok (.invokestatic 84, 3) := by decide +kernel
theorem dX12_text_42 : decode cX12_text 42 = .ok (.ifCond .eq 30, 3) := by decide +kernel
theorem dX12_text_45 : decode cX12_text 45 = .ok (.iload_n 2, 1) := by decide +kernel
theorem dX12_text_46 : decode cX12_text 46 = .ok (.iconst (-1), 1) := by decide +kernel
theorem dX12_text_47 : decode cX12_text 47 = .ok (.if_icmp .ne 16, 3) := by decide +kernel
theorem dX12_text_50 : decode cX12_text 50 = .ok (.aload_n 0, 1) := by decide +kernel
theorem dX12_text_51 : decode cX12_text 51 = .ok (.getfield 23, 3) := by decide +kernel
theorem dX12_text_54 : decode cX12_text 54 = .ok (.iload_n 1, 1) := by decide +kernel
theorem dX12_text_55 : decode cX12_text 55 = .ok (.iaload, 1) := by decide +kernel
theorem dX12_text_56 : decode cX12_text 56 = .ok (.iconst 2, 1) := by decide +kernel
theorem dX12_text_57 : decode cX12_text 57 = .ok (.if_icmp .ne 18, 3) := by decide +kernel
theorem dX12_text_60 : decode cX12_text 60 = .ok (.goto 12, 3) := by decide +kernel
theorem dX12_text_63 : decode cX12_text 63 = .ok (.aload_n 0, 1) := by decide +kernel
theorem dX12_text_64 : decode cX12_text 64 = .ok (.iload_n 1, 1) := by decide +kernel
theorem dX12_text_65 : decode cX12_text 65 = .ok (.iload_n 2, 1) := by decide +kernel
theorem dX12_text_66 : decode cX12_text 66 = .ok (.invokevirtual 231, 3) := by decide +kernel
theorem dX12_text_69 : decode cX12_text 69 = .ok (.ifCond .ne 6, 3) := by decide +kernel
theorem dX12_text_72 : decode cX12_text 72 = .ok (.bipush (-2), 2) := by decide +kernel
theorem dX12_text_74 : decode cX12_text 74 = .ok (.ireturn, 1) := by decide +kernel
theorem dX12_text_75 : decode cX12_text 75 = .ok (.aload_n 0, 1) := by decide +kernel
theorem dX12_text_76 : decode cX12_text 76 = .ok (.iload_n 1, 1) := by decide +kernel
theorem dX12_text_77 : decode cX12_text 77 = .ok (.invokevirtual 234, 3) := by decide +kernel
theorem dX12_text_80 : decode cX12_text 80 = .ok (.ifCond .ne 5, 3) := by decide +kernel
theorem dX12_text_83 : decode cX12_text 83 = .ok (.iconst (-1), 1) := by decide +kernel
theorem dX12_text_84 : decode cX12_text 84 = .ok (.ireturn, 1) := by decide +kernel
theorem dX12_text_85 : decode cX12_text 85 = .ok (.iload_n 2, 1) := by decide +kernel
theorem dX12_text_86 : decode cX12_text 86 = .ok (.iconst (-1), 1) := by decide +kernel
theorem dX12_text_87 : decode cX12_text 87 = .ok (.if_icmp .ne 12, 3) := by decide +kernel
theorem dX12_text_90 : decode cX12_text 90 = .ok (.aload_n 0, 1) := by decide +kernel
theorem dX12_text_91 : decode cX12_text 91 = .ok (.getfield 23, 3) := by decide +kernel
theorem dX12_text_94 : decode cX12_text 94 = .ok (.iload_n 1, 1) := by decide +kernel
theorem dX12_text_95 : decode cX12_text 95 = .ok (.iaload, 1) := by decide +kernel
theorem dX12_text_96 : decode cX12_text 96 = .ok (.goto 4, 3) := by decide +kernel
theorem dX12_text_99 : decode cX12_text 99 = .ok (.iload_n 2, 1) := by decide +kernel
theorem dX12_text_100 : decode cX12_text 100 = .ok (.istore_n 3, 1) := by decide +kernel
theorem dX12_text_101 : decode cX12_text 101 = .ok (.aload_n 0, 1) := by decide +kernel
theorem dX12_text_102 : decode cX12_text 102 = .ok (.getfield 23, 3) := by decide +kernel
theorem dX12_text_105 : decode cX12_text 105 = .ok (.iload_n 1, 1) := by decide +kernel
theorem dX12_text_106 : decode cX12_text 106 = .ok (.dup2, 1) := by decide +kernel
theorem dX12_text_107 : decode cX12_text 107 = .ok (.iaload, 1) := by decide +kernel
theorem dX12_text_108 : decode cX12_text 108 = .ok (.iload_n 2, 1) := by decide +kernel
theorem dX12_text_109 : decode cX12_text 109 = .ok (.iconst (-1), 1) := by decide +kernel
theorem dX12_text_110 : decode cX12_text 110 = .ok (.if_icmp .ne 7, 3) := by decide +kernel
theorem dX12_text_113 : decode cX12_text 113 = .ok (.iconst 1, 1) := by decide +kernel
theorem dX12_text_114 : decode cX12_text 114 = .ok (.goto 4, 3) := by decide +kernel
theorem dX12_text_117 : decode cX12_text 117 = .ok (.iconst 0, 1) := by decide +kernel
theorem dX12_text_118 : decode cX12_text 118 = .ok (.iadd, 1) := by decide +kernel
theorem dX12_text_119 : decode cX12_text 119 = .ok (.iastore, 1) := by decide +kernel
theorem dX12_text_120 : decode cX12_text 120 = .ok (.iload_n 1, 1) := by decide +kernel
theorem dX12_text_121 : decode cX12_text 121 = .ok (.ifCond .ne 17, 3) := by decide +kernel
theorem dX12_text_124 : decode cX12_text 124 = .ok (.aload_n 0, 1) := by decide +kernel
theorem dX12_text_125 : decode cX12_text 125 = .ok (.aload_n 0, 1) := by decide +kernel
theorem dX12_text_126 : decode cX12_text 126 = .ok (.getfield 26, 3) := by decide +kernel
theorem dX12_text_129 : decode cX12_text 129 = .ok (.bipush 125, 2) := by decide +kernel
theorem dX12_text_131 : decode cX12_text 131 = .ok (.iload_n 3, 1) := by decide +kernel
theorem dX12_text_132 : decode cX12_text 132 = .ok (.invokevirtual 237, 3) := by decide +kernel
theorem dX12_text_135 : decode cX12_text 135 = .ok (.goto 34, 3) := by decide +kernel
theorem dX12_text_138 : decode cX12_text 138 = .ok (.iload_n 1, 1) := by decide +kernel
theorem dX12_text_139 : decode cX12_text 139 = .ok (.iconst 1, 1) := by decide +kernel
theorem dX12_text_140 : decode cX12_text 140 = .ok (.if_icmp .ne 18, 3) := by decide +kernel
theorem dX12_text_143 : decode cX12_text 143 = .ok (.aload_n 0, 1) := by decide +kernel
theorem dX12_text_144 : decode cX12_text 144 = .ok (.aload_n 0, 1) := by decide +kernel
theorem dX12_text_145 : decode cX12_text 145 = .ok (.getfield 29, 3) := by decide +kernel
theorem dX12_text_148 : decode cX12_text 148 = .ok (.sipush 161, 3) := by decide +kernel
theorem dX12_text_151 : decode cX12_text 151 = .ok (.iload_n 3, 1) := by decide +kernel
theorem dX12_text_152 : decode cX12_text 152 = .ok (.invokevirtual 237, 3) := by decide +kernel
theorem dX12_text_155 : decode cX12_text 155 = .ok (.goto 14, 3) := by decide +kernel
theorem dX12_text_158 : decode cX12_text 158 = .ok (.aload_n 0, 1) := by decide +kernel
theorem dX12_text_159 : decode cX12_text 159 = .ok (.aload_n 0, 1) := by decide +kernel
theorem dX12_text_160 : decode cX12_text 160 = .ok (.getfield 32, 3) := by decide +kernel
theorem dX12_text_163 : decode cX12_text 163 = .ok (.bipush 18, 2) := by decide +kernel
theorem dX12_text_165 : decode cX12_text 165 = .ok (.iload_n 3, 1) := by decide +kernel
theorem dX12_text_166 : decode cX12_text 166 = .ok (.invokevirtual 237, 3) := by decide +kernel
theorem dX12_text_169 : decode cX12_text 169 = .ok (.iload_n 3, 1) := by decide +kernel
theorem dX12_text_170 : decode cX12_text 170 = .ok (.ireturn, 1) := by decide +kernel
theorem dX12_fault_0 : decode cX12_fault 0 = .ok (.aload_n 0, 1) := by decide +kernel
theorem dX12_fault_1 : decode cX12_fault 1 = .ok (.iconst 0, 1) := by decide +kernel
theorem dX12_fault_2 : decode cX12_fault 2 = .ok (.putfield 72, 3) := by decide +kernel
theorem dX12_fault_5 : decode cX12_fault 5 = .ok (.iload_n 1, 1) := by decide +kernel
theorem dX12_fault_6 : decode cX12_fault 6 = .ok (.ifCond .ne 12, 3) := by decide +kernel
theorem dX12_fault_9 : decode cX12_fault 9 = .ok (.aload_n 0, 1) := by decide +kernel
theorem dX12_fault_10 : decode cX12_fault 10 = .ok (.getfield 17, 3) := by decide +kernel
theorem dX12_fault_13 : decode cX12_fault 13 = .ok (.iconst 0, 1) := by decide +kernel
theorem dX12_fault_14 : decode cX12_fault 14 = .ok (.iaload, 1) := by decide +kernel
theorem dX12_fault_15 : decode cX12_fault 15 = .ok (.goto 18, 3) := by decide +kernel
theorem dX12_fault_18 : decode cX12_fault 18 = .ok (.iload_n 1, 1) := by decide +kernel
theorem dX12_fault_19 : decode cX12_fault 19 = .ok (.iconst 1, 1) := by decide +kernel
theorem dX12_fault_20 : decode cX12_fault 20 = .ok (.if_icmp .ne 12, 3) := by decide +kernel
theorem dX12_fault_23 : decode cX12_fault 23 = .ok (.aload_n 0, 1) := by decide +kernel
theorem dX12_fault_24 : decode cX12_fault 24 = .ok (.getfield 20, 3) := by decide +kernel
theorem dX12_fault_27 : decode cX12_fault 27 = .ok (.iconst 0, 1) := by decide +kernel
theorem dX12_fault_28 : decode cX12_fault 28 = .ok (.iaload, 1) := by decide +kernel
theorem dX12_fault_29 : decode cX12_fault 29 = .ok (.goto 4, 3) := by decide +kernel
theorem dX12_fault_32 : decode cX12_fault 32 = .ok (.iconst (-1), 1) := by decide +kernel
theorem dX12_fault_33 : decode cX12_fault 33 = .ok (.ireturn, 1) := by decide +kernel
theorem dX12_of_0 : decode cX12_of 0 = .ok (.aload_n 0, 1) := by decide +kernel
theorem dX12_of_1 : decode cX12_of 1 = .ok (.getfield 26, 3) := by decide +kernel
theorem dX12_of_4 : decode cX12_of 4 = .ok (.bipush 125, 2) := by decide +kernel
theorem dX12_of_6 : decode cX12_of 6 = .ok (.aload_n 0, 1) := by decide +kernel
theorem dX12_of_7 : decode cX12_of 7 = .ok (.getfield 241, 3) := by decide +kernel
theorem dX12_of_10 : decode cX12_of 10 = .ok (.imul, 1) := by decide +kernel
theorem dX12_of_11 : decode cX12_of 11 = .ok (.iload_n 1, 1) := by decide +kernel
theorem dX12_of_12 : decode cX12_of 12 = .ok (.iadd, 1) := by decide +kernel
theorem dX12_of_13 : decode cX12_of 13 = .ok (.iaload, 1) := by decide +kernel
theorem dX12_of_14 : decode cX12_of 14 = .ok (.ireturn, 1) := by decide +kernel
theorem dX12_hand_0 : decode cX12_hand 0 = .ok (.aload_n 0, 1) := by decide +kernel
theorem dX12_hand_1 : decode cX12_hand 1 = .ok (.iconst 0, 1) := by decide +kernel
theorem dX12_hand_2 : decode cX12_hand 2 = .ok (.iload_n 1, 1) := by decide +kernel
theorem dX12_hand_3 : decode cX12_hand 3 = .ok (.invokevirtual 231, 3) := by decide +kernel
theorem dX12_hand_6 : decode cX12_hand 6 = .ok (.ifCond .ne 5, 3) := by decide +kernel
theorem dX12_hand_9 : decode cX12_hand 9 = .ok (.iconst 0, 1) := by decide +kernel
theorem dX12_hand_10 : decode cX12_hand 10 = .ok (.ireturn, 1) := by decide +kernel
theorem dX12_hand_11 : decode cX12_hand 11 = .ok (.aload_n 0, 1) := by decide +kernel
theorem dX12_hand_12 : decode cX12_hand 12 = .ok (.iload_n 1, 1) := by decide +kernel
theorem dX12_hand_13 : decode cX12_hand 13 = .ok (.putfield 241, 3) := by decide +kernel
theorem dX12_hand_16 : decode cX12_hand 16 = .ok (.aload_n 0, 1) := by decide +kernel
theorem dX12_hand_17 : decode cX12_hand 17 = .ok (.aload_n 0, 1) := by decide +kernel
theorem dX12_hand_18 : decode cX12_hand 18 = .ok (.iconst 3, 1) := by decide +kernel
theorem dX12_hand_19 : decode cX12_hand 19 = .ok (.invokevirtual 244, 3) := by decide +kernel
theorem dX12_hand_22 : decode cX12_hand 22 = .ok (.putfield 248, 3) := by decide +kernel
theorem dX12_hand_25 : decode cX12_hand 25 = .ok (.aload_n 0, 1) := by decide +kernel
theorem dX12_hand_26 : decode cX12_hand 26 = .ok (.aload_n 0, 1) := by decide +kernel
theorem dX12_hand_27 : decode cX12_hand 27 = .ok (.iconst 4, 1) := by decide +kernel
theorem dX12_hand_28 : decode cX12_hand 28 = .ok (.invokevirtual 244, 3) := by decide +kernel
theorem dX12_hand_31 : decode cX12_hand 31 = .ok (.putfield 251, 3) := by decide +kernel
theorem dX12_hand_34 : decode cX12_hand 34 = .ok (.aload_n 0, 1) := by decide +kernel
theorem dX12_hand_35 : decode cX12_hand 35 = .ok (.aload_n 0, 1) := by decide +kernel
theorem dX12_hand_36 : decode cX12_hand 36 = .ok (.bipush 6, 2) := by decide +kernel
theorem dX12_hand_38 : decode cX12_hand 38 = .ok (.invokevirtual 244, 3) := by decide +kernel
theorem dX12_hand_41 : decode cX12_hand 41 = .ok (.putfield 254, 3) := by decide +kernel
theorem dX12_hand_44 : decode cX12_hand 44 = .ok (.aload_n 0, 1) := by decide +kernel
theorem dX12_hand_45 : decode cX12_hand 45 = .ok (.aload_n 0, 1) := by decide +kernel
theorem dX12_hand_46 : decode cX12_hand 46 = .ok (.iconst 0, 1) := by decide +kernel
theorem dX12_hand_47 : decode cX12_hand 47 = .ok (.invokevirtual 244, 3) := by decide +kernel
theorem dX12_hand_50 : decode cX12_hand 50 = .ok (.putfield 257, 3) := by decide +kernel
theorem dX12_hand_53 : decode cX12_hand 53 = .ok (.aload_n 0, 1) := by decide +kernel
theorem dX12_hand_54 : decode cX12_hand 54 = .ok (.aload_n 0, 1) := by decide +kernel
theorem dX12_hand_55 : decode cX12_hand 55 = .ok (.iconst 1, 1) := by decide +kernel
theorem dX12_hand_56 : decode cX12_hand 56 = .ok (.invokevirtual 244, 3) := by decide +kernel
theorem dX12_hand_59 : decode cX12_hand 59 = .ok (.putfield 260, 3) := by decide +kernel
theorem dX12_hand_62 : decode cX12_hand 62 = .ok (.aload_n 0, 1) := by decide +kernel
theorem dX12_hand_63 : decode cX12_hand 63 = .ok (.aload_n 0, 1) := by decide +kernel
theorem dX12_hand_64 : decode cX12_hand 64 = .ok (.iconst 2, 1) := by decide +kernel
theorem dX12_hand_65 : decode cX12_hand 65 = .ok (.invokevirtual 244, 3) := by decide +kernel
theorem dX12_hand_68 : decode cX12_hand 68 = .ok (.putfield 263, 3) := by decide +kernel
theorem dX12_hand_71 : decode cX12_hand 71 = .ok (.aload_n 0, 1) := by decide +kernel
theorem dX12_hand_72 : decode cX12_hand 72 = .ok (.iconst 0, 1) := by decide +kernel
theorem dX12_hand_73 : decode cX12_hand 73 = .ok (.putfield 266, 3) := by decide +kernel
theorem dX12_hand_76 : decode cX12_hand 76 = .ok (.aload_n 0, 1) := by decide +kernel
theorem dX12_hand_77 : decode cX12_hand 77 = .ok (.iconst 0, 1) := by decide +kernel
theorem dX12_hand_78 : decode cX12_hand 78 = .ok (.putfield 269, 3) := by decide +kernel
theorem dX12_hand_81 : decode cX12_hand 81 = .ok (.aload_n 0, 1) := by decide +kernel
theorem dX12_hand_82 : decode cX12_hand 82 = .ok (.iconst (-1), 1) := by decide +kernel
theorem dX12_hand_83 : decode cX12_hand 83 = .ok (.putfield 272, 3) := by decide +kernel
theorem dX12_hand_86 : decode cX12_hand 86 = .ok (.aload_n 0, 1) := by decide +kernel
theorem dX12_hand_87 : decode cX12_hand 87 = .ok (.iconst 0, 1) := by decide +kernel
theorem dX12_hand_88 : decode cX12_hand 88 = .ok (.putfield 275, 3) := by decide +kernel
theorem dX12_hand_91 : decode cX12_hand 91 = .ok (.aload_n 0, 1) := by decide +kernel
theorem dX12_hand_92 : decode cX12_hand 92 = .ok (.iconst 0, 1) := by decide +kernel
theorem dX12_hand_93 : decode cX12_hand 93 = .ok (.putfield 278, 3) := by decide +kernel
theorem dX12_hand_96 : decode cX12_hand 96 = .ok (.aload_n 0, 1) := by decide +kernel
theorem dX12_hand_97 : decode cX12_hand 97 = .ok (.iconst 0, 1) := by decide +kernel
theorem dX12_hand_98 : decode cX12_hand 98 = .ok (.putfield 281, 3) := by decide +kernel
theorem dX12_hand_101 : decode cX12_hand 101 = .ok (.aload_n 0, 1) := by decide +kernel
theorem dX12_hand_102 : decode cX12_hand 102 = .ok (.iconst 0, 1) := by decide +kernel
theorem dX12_hand_103 : decode cX12_hand 103 = .ok (.putfield 284, 3) := by decide +kernel
theorem dX12_hand_106 : decode cX12_hand 106 = .ok (.aload_n 0, 1) := by decide +kernel
theorem dX12_hand_107 : decode cX12_hand 107 = .ok (.iconst 0, 1) := by decide +kernel
theorem dX12_hand_108 : decode cX12_hand 108 = .ok (.putfield 287, 3) := by decide +kernel
theorem dX12_hand_111 : decode cX12_hand 111 = .ok (.iconst 0, 1) := by decide +kernel
theorem dX12_hand_112 : decode cX12_hand 112 = .ok (.istore_n 2, 1) := by decide +kernel
theorem dX12_hand_113 : decode cX12_hand 113 = .ok (.iload_n 2, 1) := by decide +kernel
theorem dX12_hand_114 : decode cX12_hand 114 = .ok (.bipush 8, 2) := by decide +kernel
theorem dX12_hand_116 : decode cX12_hand 116 = .ok (.if_icmp .ge 37, 3) := by decide +kernel
theorem dX12_hand_119 : decode cX12_hand 119 = .ok (.aload_n 0, 1) := by decide +kernel
theorem dX12_hand_120 : decode cX12_hand 120 = .ok (.getfield 41, 3) := by decide +kernel
theorem dX12_hand_123 : decode cX12_hand 123 = .ok (.iload_n 2, 1) := by decide +kernel
theorem dX12_hand_124 : decode cX12_hand 124 = .ok (.aload_n 0, 1) := by decide +kernel
theorem dX12_hand_125 : decode cX12_hand 125 = .ok (.bipush 25, 2) := by decide +kernel
theorem dX12_hand_127 : decode cX12_hand 127 = .ok (.iload_n 2, 1) := by decide +kernel
theorem dX12_hand_128 : decode cX12_hand 128 = .ok (.iadd, 1) := by decide +kernel
theorem dX12_hand_129 : decode cX12_hand 129 = .ok (.invokevirtual 244, 3) := by decide +kernel
theorem dX12_hand_132 : decode cX12_hand 132 = .ok (.iastore, 1) := by decide +kernel
theorem dX12_hand_133 : decode cX12_hand 133 = .ok (.aload_n 0, 1) := by decide +kernel
theorem dX12_hand_134 : decode cX12_hand 134 = .ok (.getfield 44, 3) := by decide +kernel
theorem dX12_hand_137 : decode cX12_hand 137 = .ok (.iload_n 2, 1) := by decide +kernel
theorem dX12_hand_138 : decode cX12_hand 138 = .ok (.aload_n 0, 1) := by decide +kernel
theorem dX12_hand_139 : decode cX12_hand 139 = .ok (.bipush 33, 2) := by decide +kernel
theorem dX12_hand_141 : decode cX12_hand 141 = .ok (.iload_n 2, 1) := by decide +kernel
theorem dX12_hand_142 : decode cX12_hand 142 = .ok (.iadd, 1) := by decide +kernel
theorem dX12_hand_143 : decode cX12_hand 143 = .ok (.invokevirtual 244, 3) := by decide +kernel
theorem dX12_hand_146 : decode cX12_hand 146 = .ok (.iastore, 1) := by decide +kernel
theorem dX12_hand_147 : decode cX12_hand 147 = .ok (.iinc 2 1, 3) := by decide +kernel
theorem dX12_hand_150 : decode cX12_hand 150 = .ok (.goto (-37), 3) := by decide +kernel
theorem dX12_hand_153 : decode cX12_hand 153 = .ok (.iconst 0, 1) := by decide +kernel
theorem dX12_hand_154 : decode cX12_hand 154 = .ok (.istore_n 2, 1) := by decide +kernel
theorem dX12_hand_155 : decode cX12_hand 155 = .ok (.iload_n 2, 1) := by decide +kernel
theorem dX12_hand_156 : decode cX12_hand 156 = .ok (.bipush 48, 2) := by decide +kernel
theorem dX12_hand_158 : decode cX12_hand 158 = .ok (.if_icmp .ge 23, 3) := by decide +kernel
theorem dX12_hand_161 : decode cX12_hand 161 = .ok (.aload_n 0, 1) := by decide +kernel
theorem dX12_hand_162 : decode cX12_hand 162 = .ok (.getfield 47, 3) := by decide +kernel
theorem dX12_hand_165 : decode cX12_hand 165 = .ok (.iload_n 2, 1) := by decide +kernel
theorem dX12_hand_166 : decode cX12_hand 166 = .ok (.aload_n 0, 1) := by decide +kernel
theorem dX12_hand_167 : decode cX12_hand 167 = .ok (.bipush 41, 2) := by decide +kernel
theorem dX12_hand_169 : decode cX12_hand 169 = .ok (.iload_n 2, 1) := by decide +kernel
theorem dX12_hand_170 : decode cX12_hand 170 = .ok (.iadd, 1) := by decide +kernel
theorem dX12_hand_171 : decode cX12_hand 171 = .ok (.invokevirtual 244, 3) := by decide +kernel
theorem dX12_hand_174 : decode cX12_hand 174 = .ok (.iastore, 1) := by decide +kernel
theorem dX12_hand_175 : decode cX12_hand 175 = .ok (.iinc 2 1, 3) := by decide +kernel
theorem dX12_hand_178 : decode cX12_hand 178 = .ok (.goto (-23), 3) := by decide +kernel
theorem dX12_hand_181 : decode cX12_hand 181 = .ok (.iconst 1, 1) := by decide +kernel
theorem dX12_hand_182 : decode cX12_hand 182 = .ok (.ireturn, 1) := by decide +kernel
theorem dX12_isGoer_0 : decode cX12_isGoer 0 = .ok (.iload_n 1, 1) := by decide +kernel
theorem dX12_isGoer_1 : decode cX12_isGoer 1 = .ok (.iconst 0, 1) := by decide +kernel
theorem dX12_isGoer_2 : decode cX12_isGoer 2 = .ok (.aload_n 0, 1) := by decide +kernel
theorem dX12_isGoer_3 : decode cX12_isGoer 3 = .ok (.getfield 251, 3) := by decide +kernel
theorem dX12_isGoer_6 : decode cX12_isGoer 6 = .ok (.iconst 1, 1) := by decide +kernel
theorem dX12_isGoer_7 : decode cX12_isGoer 7 = .ok (.isub, 1) := by decide +kernel
theorem dX12_isGoer_8 : decode cX12_isGoer 8 = .ok (.invokestatic 84, 3) := by decide +kernel
theorem dX12_isGoer_11 : decode cX12_isGoer 11 = .ok (.ireturn, 1) := by decide +kernel
theorem dX12_way_0 : decode cX12_way 0 = .ok (.iload_n 0, 1) := by decide +kernel
theorem dX12_way_1 : decode cX12_way 1 = .ok (.iload_n 2, 1) := by decide +kernel
theorem dX12_way_2 : decode cX12_way 2 = .ok (.if_icmp .ge 9, 3) := by decide +kernel
theorem dX12_way_5 : decode cX12_way 5 = .ok (.iload_n 2, 1) := by decide +kernel
theorem dX12_way_6 : decode cX12_way 6 = .ok (.iload_n 0, 1) := by decide +kernel
theorem dX12_way_7 : decode cX12_way 7 = .ok (.isub, 1) := by decide +kernel
theorem dX12_way_8 : decode cX12_way 8 = .ok (.goto 6, 3) := by decide +kernel
theorem dX12_way_11 : decode cX12_way 11 = .ok (.iload_n 0, 1) := by decide +kernel
theorem dX12_way_12 : decode cX12_way 12 = .ok (.iload_n 2, 1) := by decide +kernel
theorem dX12_way_13 : decode cX12_way 13 = .ok (.isub, 1) := by decide +kernel
theorem dX12_way_14 : decode cX12_way 14 = .ok (.istore 4, 2) := by decide +kernel
theorem dX12_way_16 : decode cX12_way 16 = .ok (.iload 4, 2) := by decide +kernel
theorem dX12_way_18 : decode cX12_way 18 = .ok (.iload_n 1, 1) := by decide +kernel
theorem dX12_way_19 : decode cX12_way 19 = .ok (.iload_n 3, 1) := by decide +kernel
theorem dX12_way_20 : decode cX12_way 20 = .ok (.if_icmp .ge 9, 3) := by decide +kernel
theorem dX12_way_23 : decode cX12_way 23 = .ok (.iload_n 3, 1) := by decide +kernel
theorem dX12_way_24 : decode cX12_way 24 = .ok (.iload_n 1, 1) := by decide +kernel
theorem dX12_way_25 : decode cX12_way 25 = .ok (.isub, 1) := by decide +kernel
theorem dX12_way_26 : decode cX12_way 26 = .ok (.goto 6, 3) := by decide +kernel
theorem dX12_way_29 : decode cX12_way 29 = .ok (.iload_n 1, 1) := by decide +kernel
theorem dX12_way_30 : decode cX12_way 30 = .ok (.iload_n 3, 1) := by decide +kernel
theorem dX12_way_31 : decode cX12_way 31 = .ok (.isub, 1) := by decide +kernel
theorem dX12_way_32 : decode cX12_way 32 = .ok (.iadd, 1) := by decide +kernel
theorem dX12_way_33 : decode cX12_way 33 = .ok (.ireturn, 1) := by decide +kernel
theorem dX12_fromStand_0 : decode cX12_fromStand 0 = .ok (.aload_n 0, 1) := by decide +kernel
theorem dX12_fromStand_1 : decode cX12_fromStand 1 = .ok (.getfield 41, 3) := by decide +kernel
theorem dX12_fromStand_4 : decode cX12_fromStand 4 = .ok (.iload_n 1, 1) := by decide +kernel
theorem dX12_fromStand_5 : decode cX12_fromStand 5 = .ok (.iaload, 1) := by decide +kernel
theorem dX12_fromStand_6 : decode cX12_fromStand 6 = .ok (.aload_n 0, 1) := by decide +kernel
theorem dX12_fromStand_7 : decode cX12_fromStand 7 = .ok (.getfield 44, 3) := by decide +kernel
theorem dX12_fromStand_10 : decode cX12_fromStand 10 = .ok (.iload_n 1, 1) := by decide +kernel
theorem dX12_fromStand_11 : decode cX12_fromStand 11 = .ok (.iaload, 1) := by decide +kernel
theorem dX12_fromStand_12 : decode cX12_fromStand 12 = .ok (.aload_n 0, 1) := by decide +kernel
theorem dX12_fromStand_13 : decode cX12_fromStand 13 = .ok (.getfield 257, 3) := by decide +kernel
theorem dX12_fromStand_16 : decode cX12_fromStand 16 = .ok (.aload_n 0, 1) := by decide +kernel
theorem dX12_fromStand_17 : decode cX12_fromStand 17 = .ok (.getfield 260, 3) := by decide +kernel
theorem dX12_fromStand_20 : decode cX12_fromStand 20 = .ok (.invokestatic 290, 3) := by decide +kernel
theorem dX12_fromStand_23 : decode cX12_fromStand 23 = .ok (.ireturn, 1) := by decide +kernel
theorem dX12_offends_0 : decode cX12_offends 0 = .ok (.aload_n 0, 1) := by decide +kernel
theorem dX12_offends_1 : decode cX12_offends 1 = .ok (.iload_n 1, 1) := by decide +kernel
theorem dX12_offends_2 : decode cX12_offends 2 = .ok (.invokevirtual 294, 3) := by decide +kernel
theorem dX12_offends_5 : decode cX12_offends 5 = .ok (.istore_n 2, 1) := by decide +kernel
theorem dX12_offends_6 : decode cX12_offends 6 = .ok (.iconst 0, 1) := by decide +kernel
theorem dX12_offends_7 : decode cX12_offends 7 = .ok (.istore_n 3, 1) := by decide +kernel
theorem dX12_offends_8 : decode cX12_offends 8 = .ok (.iload_n 3, 1) := by decide +kernel
theorem dX12_offends_9 : decode cX12_offends 9 = .ok (.aload_n 0, 1) := by decide +kernel
theorem dX12_offends_10 : decode cX12_offends 10 = .ok (.getfield 248, 3) := by decide +kernel
theorem dX12_offends_13 : decode cX12_offends 13 = .ok (.if_icmp .ge 85, 3) := by decide +kernel
theorem dX12_offends_16 : decode cX12_offends 16 = .ok (.aload_n 0, 1) := by decide +kernel
theorem dX12_offends_17 : decode cX12_offends 17 = .ok (.getfield 281, 3) := by decide +kernel
theorem dX12_offends_20 : decode cX12_offends 20 = .ok (.iload_n 3, 1) := by decide +kernel
theorem dX12_offends_21 : decode cX12_offends 21 = .ok (.invokestatic 76, 3) := by decide +kernel
theorem dX12_offends_24 : decode cX12_offends 24 = .ok (.ifCond .ne 24, 3) := by decide +kernel
theorem dX12_offends_27 : decode cX12_offends 27 = .ok (.iload_n 2, 1) := by decide +kernel
theorem dX12_offends_28 : decode cX12_offends 28 = .ok (.aload_n 0, 1) := by decide +kernel
theorem dX12_offends_29 : decode cX12_offends 29 = .ok (.bipush 13, 2) := by decide +kernel
theorem dX12_offends_31 : decode cX12_offends 31 = .ok (.iload_n 3, 1) := by decide +kernel
theorem dX12_offends_32 : decode cX12_offends 32 = .ok (.iadd, 1) := by decide +kernel
theorem dX12_offends_33 : decode cX12_offends 33 = .ok (.invokevirtual 244, 3) := by decide +kernel
theorem dX12_offends_36 : decode cX12_offends 36 = .ok (.aload_n 0, 1) := by decide +kernel
theorem dX12_offends_37 : decode cX12_offends 37 = .ok (.getfield 287, 3) := by decide +kernel
theorem dX12_offends_40 : decode cX12_offends 40 = .ok (.isub, 1) := by decide +kernel
theorem dX12_offends_41 : decode cX12_offends 41 = .ok (.if_icmp .gt 7, 3) := by decide +kernel
theorem dX12_offends_44 : decode cX12_offends 44 = .ok (.iconst 1, 1) := by decide +kernel
theorem dX12_offends_45 : decode cX12_offends 45 = .ok (.goto 4, 3) := by decide +kernel
theorem dX12_offends_48 : decode cX12_offends 48 = .ok (.iconst 0, 1) := by decide +kernel
theorem dX12_offends_49 : decode cX12_offends 49 = .ok (.istore 4, 2) := by decide +kernel
theorem dX12_offends_51 : decode cX12_offends 51 = .ok (.iload 4, 2) := by decide +kernel
theorem dX12_offends_53 : decode cX12_offends 53 = .ok (.ifCond .eq 39, 3) := by decide +kernel
theorem dX12_offends_56 : decode cX12_offends 56 = .ok (.aload_n 0, 1) := by decide +kernel
theorem dX12_offends_57 : decode cX12_offends 57 = .ok (.getfield 47, 3) := by decide +kernel
theorem dX12_offends_60 : decode cX12_offends 60 = .ok (.bipush 6, 2) := by decide +kernel
theorem dX12_offends_62 : decode cX12_offends 62 = .ok (.iload_n 1, 1) := by decide +kernel
theorem dX12_offends_63 : decode cX12_offends 63 = .ok (.imul, 1) := by decide +kernel
theorem dX12_offends_64 : decode cX12_offends 64 = .ok (.aload_n 0, 1) := by decide +kernel
theorem dX12_offends_65 : decode cX12_offends 65 = .ok (.bipush 7, 2) := by decide +kernel
theorem dX12_offends_67 : decode cX12_offends 67 = .ok (.iload_n 3, 1) := by decide +kernel
theorem dX12_offends_68 : decode cX12_offends 68 = .ok (.iadd, 1) := by decide +kernel
theorem dX12_offends_69 : decode cX12_offends 69 = .ok (.invokevirtual 244, 3) := by decide +kernel
theorem dX12_offends_72 : decode cX12_offends 72 = .ok (.iadd, 1) := by decide +kernel
theorem dX12_offends_73 : decode cX12_offends 73 = .ok (.iaload, 1) := by decide +kernel
theorem dX12_offends_74 : decode cX12_offends 74 = .ok (.aload_n 0, 1) := by decide +kernel
theorem dX12_offends_75 : decode cX12_offends 75 = .ok (.bipush 19, 2) := by decide +kernel
theorem dX12_offends_77 : decode cX12_offends 77 = .ok (.iload_n 3, 1) := by decide +kernel
theorem dX12_offends_78 : decode cX12_offends 78 = .ok (.iadd, 1) := by decide +kernel
theorem dX12_offends_79 : decode cX12_offends 79 = .ok (.invokevirtual 244, 3) := by decide +kernel
theorem dX12_offends_82 : decode cX12_offends 82 = .ok (.aload_n 0, 1) := by decide +kernel
theorem dX12_offends_83 : decode cX12_offends 83 = .ok (.getfield 284, 3) := by decide +kernel
theorem dX12_offends_86 : decode cX12_offends 86 = .ok (.iadd, 1) := by decide +kernel
theorem dX12_offends_87 : decode cX12_offends 87 = .ok (.if_icmp .lt 5, 3) := by decide +kernel
theorem dX12_offends_90 : decode cX12_offends 90 = .ok (.iconst 1, 1) := by decide +kernel
theorem dX12_offends_91 : decode cX12_offends 91 = .ok (.ireturn, 1) := by decide +kernel
theorem dX12_offends_92 : decode cX12_offends 92 = .ok (.iinc 3 1, 3) := by decide +kernel
theorem dX12_offends_95 : decode cX12_offends 95 = .ok (.goto (-87), 3) := by decide +kernel
theorem dX12_offends_98 : decode cX12_offends 98 = .ok (.iconst 0, 1) := by decide +kernel
theorem dX12_offends_99 : decode cX12_offends 99 = .ok (.ireturn, 1) := by decide +kernel
theorem dX12_offenders_0 : decode cX12_offenders 0 = .ok (.iconst 0, 1) := by decide +kernel
theorem dX12_offenders_1 : decode cX12_offenders 1 = .ok (.istore_n 1, 1) := by decide +kernel
theorem dX12_offenders_2 : decode cX12_offenders 2 = .ok (.iconst 0, 1) := by decide +kernel
theorem dX12_offenders_3 : decode cX12_offenders 3 = .ok (.istore_n 2, 1) := by decide +kernel
theorem dX12_offenders_4 : decode cX12_offenders 4 = .ok (.iload_n 2, 1) := by decide +kernel
theorem dX12_offenders_5 : decode cX12_offenders 5 = .ok (.aload_n 0, 1) := by decide +kernel
theorem dX12_offenders_6 : decode cX12_offenders 6 = .ok (.getfield 251, 3) := by decide +kernel
theorem dX12_offenders_9 : decode cX12_offenders 9 = .ok (.if_icmp .ge 27, 3) := by decide +kernel
theorem dX12_offenders_12 : decode cX12_offenders 12 = .ok (.iload_n 1, 1) := by decide +kernel
theorem dX12_offenders_13 : decode cX12_offenders 13 = .ok (.aload_n 0, 1) := by decide +kernel
theorem dX12_offenders_14 : decode cX12_offenders 14 = .ok (.iload_n 2, 1) := by decide +kernel
theorem dX12_offenders_15 : decode cX12_offenders 15 = .ok (.invokevirtual 297, 3) := by decide +kernel
theorem dX12_offenders_18 : decode cX12_offenders 18 = .ok (.ifCond .eq 9, 3) := by decide +kernel
theorem dX12_offenders_21 : decode cX12_offenders 21 = .ok (.iconst 1, 1) := by decide +kernel
theorem dX12_offenders_22 : decode cX12_offenders 22 = .ok (.iload_n 2, 1) := by decide +kernel
theorem dX12_offenders_23 : decode cX12_offenders 23 = .ok (.ishl, 1) := by decide +kernel
theorem dX12_offenders_24 : decode cX12_offenders 24 = .ok (.goto 4, 3) := by decide +kernel
theorem dX12_offenders_27 : decode cX12_offenders 27 = .ok (.iconst 0, 1) := by decide +kernel
theorem dX12_offenders_28 : decode cX12_offenders 28 = .ok (.ior, 1) := by decide +kernel
theorem dX12_offenders_29 : decode cX12_offenders 29 = .ok (.istore_n 1, 1) := by decide +kernel
theorem dX12_offenders_30 : decode cX12_offenders 30 = .ok (.iinc 2 1, 3) := by decide +kernel
theorem dX12_offenders_33 : decode cX12_offenders 33 = .ok (.goto (-29), 3) := by decide +kernel
theorem dX12_offenders_36 : decode cX12_offenders 36 = .ok (.iload_n 1, 1) := by decide +kernel
theorem dX12_offenders_37 : decode cX12_offenders 37 = .ok (.ireturn, 1) := by decide +kernel
theorem dX12_row_0 : decode cX12_row 0 = .ok (.iload_n 1, 1) := by decide +kernel
theorem dX12_row_1 : decode cX12_row 1 = .ok (.aload_n 0, 1) := by decide +kernel
theorem dX12_row_2 : decode cX12_row 2 = .ok (.iload_n 2, 1) := by decide +kernel
theorem dX12_row_3 : decode cX12_row 3 = .ok (.invokevirtual 244, 3) := by decide +kernel
theorem dX12_row_6 : decode cX12_row 6 = .ok (.if_icmp .ge 13, 3) := by decide +kernel
theorem dX12_row_9 : decode cX12_row 9 = .ok (.aload_n 0, 1) := by decide +kernel
theorem dX12_row_10 : decode cX12_row 10 = .ok (.iload_n 3, 1) := by decide +kernel
theorem dX12_row_11 : decode cX12_row 11 = .ok (.iload_n 1, 1) := by decide +kernel
theorem dX12_row_12 : decode cX12_row 12 = .ok (.iadd, 1) := by decide +kernel
theorem dX12_row_13 : decode cX12_row 13 = .ok (.invokevirtual 244, 3) := by decide +kernel
theorem dX12_row_16 : decode cX12_row 16 = .ok (.goto 4, 3) := by decide +kernel
theorem dX12_row_19 : decode cX12_row 19 = .ok (.iconst (-1), 1) := by decide +kernel
theorem dX12_row_20 : decode cX12_row 20 = .ok (.ireturn, 1) := by decide +kernel
theorem dX12_fair_0 : decode cX12_fair 0 = .ok (.aload_n 0, 1) := by decide +kernel
theorem dX12_fair_1 : decode cX12_fair 1 = .ok (.iconst 0, 1) := by decide +kernel
theorem dX12_fair_2 : decode cX12_fair 2 = .ok (.putfield 72, 3) := by decide +kernel
theorem dX12_fair_5 : decode cX12_fair 5 = .ok (.aload_n 0, 1) := by decide +kernel
theorem dX12_fair_6 : decode cX12_fair 6 = .ok (.iload_n 1, 1) := by decide +kernel
theorem dX12_fair_7 : decode cX12_fair 7 = .ok (.invokevirtual 300, 3) := by decide +kernel
theorem dX12_fair_10 : decode cX12_fair 10 = .ok (.ifCond .ne 5, 3) := by decide +kernel
theorem dX12_fair_13 : decode cX12_fair 13 = .ok (.iconst (-1), 1) := by decide +kernel
theorem dX12_fair_14 : decode cX12_fair 14 = .ok (.ireturn, 1) := by decide +kernel
theorem dX12_fair_15 : decode cX12_fair 15 = .ok (.iload_n 2, 1) := by decide +kernel
theorem dX12_fair_16 : decode cX12_fair 16 = .ok (.bipush 10, 2) := by decide +kernel
theorem dX12_fair_18 : decode cX12_fair 18 = .ok (.irem, 1) := by decide +kernel
theorem dX12_fair_19 : decode cX12_fair 19 = .ok (.istore_n 3, 1) := by decide +kernel
theorem dX12_fair_20 : decode cX12_fair 20 = .ok (.iload_n 2, 1) := by decide +kernel
theorem dX12_fair_21 : decode cX12_fair 21 = .ok (.sipush 200, 3) := by decide +kernel
theorem dX12_fair_24 : decode cX12_fair 24 = .ok (.if_icmp .lt 55, 3) := by decide +kernel
theorem dX12_fair_27 : decode cX12_fair 27 = .ok (.iload_n 2, 1) := by decide +kernel
theorem dX12_fair_28 : decode cX12_fair 28 = .ok (.sipush 260, 3) := by decide +kernel
theorem dX12_fair_31 : decode cX12_fair 31 = .ok (.if_icmp .ge 46, 3) := by decide +kernel
theorem dX12_fair_34 : decode cX12_fair 34 = .ok (.iload_n 2, 1) := by decide +kernel
theorem dX12_fair_35 : decode cX12_fair 35 = .ok (.sipush 200, 3) := by decide +kernel
theorem dX12_fair_38 : decode cX12_fair 38 = .ok (.isub, 1) := by decide +kernel
theorem dX12_fair_39 : decode cX12_fair 39 = .ok (.bipush 10, 2) := by decide +kernel
theorem dX12_fair_41 : decode cX12_fair 41 = .ok (.idiv, 1) := by decide +kernel
theorem dX12_fair_42 : decode cX12_fair 42 = .ok (.aload_n 0, 1) := by decide +kernel
theorem dX12_fair_43 : decode cX12_fair 43 = .ok (.getfield 254, 3) := by decide +kernel
theorem dX12_fair_46 : decode cX12_fair 46 = .ok (.if_icmp .ge 31, 3) := by decide +kernel
theorem dX12_fair_49 : decode cX12_fair 49 = .ok (.iload_n 3, 1) := by decide +kernel
theorem dX12_fair_50 : decode cX12_fair 50 = .ok (.iconst 4, 1) := by decide +kernel
theorem dX12_fair_51 : decode cX12_fair 51 = .ok (.if_icmp .ge 26, 3) := by decide +kernel
theorem dX12_fair_54 : decode cX12_fair 54 = .ok (.aload_n 0, 1) := by decide +kernel
theorem dX12_fair_55 : decode cX12_fair 55 = .ok (.bipush 101, 2) := by decide +kernel
theorem dX12_fair_57 : decode cX12_fair 57 = .ok (.bipush 6, 2) := by decide +kernel
theorem dX12_fair_59 : decode cX12_fair 59 = .ok (.iload_n 3, 1) := by decide +kernel
theorem dX12_fair_60 : decode cX12_fair 60 = .ok (.imul, 1) := by decide +kernel
theorem dX12_fair_61 : decode cX12_fair 61 = .ok (.iadd, 1) := by decide +kernel
theorem dX12_fair_62 : decode cX12_fair 62 = .ok (.iload_n 2, 1) := by decide +kernel
theorem dX12_fair_63 : decode cX12_fair 63 = .ok (.sipush 200, 3) := by decide +kernel
theorem dX12_fair_66 : decode cX12_fair 66 = .ok (.isub, 1) := by decide +kernel
theorem dX12_fair_67 : decode cX12_fair 67 = .ok (.bipush 10, 2) := by decide +kernel
theorem dX12_fair_69 : decode cX12_fair 69 = .ok (.idiv, 1) := by decide +kernel
theorem dX12_fair_70 : decode cX12_fair 70 = .ok (.iadd, 1) := by decide +kernel
theorem dX12_fair_71 : decode cX12_fair 71 = .ok (.invokevirtual 244, 3) := by decide +kernel
theorem dX12_fair_74 : decode cX12_fair 74 = .ok (.goto 4, 3) := by decide +kernel
theorem dX12_fair_77 : decode cX12_fair 77 = .ok (.iconst (-1), 1) := by decide +kernel
theorem dX12_fair_78 : decode cX12_fair 78 = .ok (.ireturn, 1) := by decide +kernel
theorem dX12_fair_79 : decode cX12_fair 79 = .ok (.iload_n 2, 1) := by decide +kernel
theorem dX12_fair_80 : decode cX12_fair 80 = .ok (.bipush 100, 2) := by decide +kernel
theorem dX12_fair_82 : decode cX12_fair 82 = .ok (.if_icmp .lt 45, 3) := by decide +kernel
theorem dX12_fair_85 : decode cX12_fair 85 = .ok (.aload_n 0, 1) := by decide +kernel
theorem dX12_fair_86 : decode cX12_fair 86 = .ok (.iload_n 2, 1) := by decide +kernel
theorem dX12_fair_87 : decode cX12_fair 87 = .ok (.bipush 100, 2) := by decide +kernel
theorem dX12_fair_89 : decode cX12_fair 89 = .ok (.isub, 1) := by decide +kernel
theorem dX12_fair_90 : decode cX12_fair 90 = .ok (.bipush 10, 2) := by decide +kernel
theorem dX12_fair_92 : decode cX12_fair 92 = .ok (.idiv, 1) := by decide +kernel
theorem dX12_fair_93 : decode cX12_fair 93 = .ok (.invokevirtual 303, 3) := by decide +kernel
theorem dX12_fair_96 : decode cX12_fair 96 = .ok (.ifCond .eq 29, 3) := by decide +kernel
theorem dX12_fair_99 : decode cX12_fair 99 = .ok (.iload_n 3, 1) := by decide +kernel
theorem dX12_fair_100 : decode cX12_fair 100 = .ok (.bipush 6, 2) := by decide +kernel
theorem dX12_fair_102 : decode cX12_fair 102 = .ok (.if_icmp .ge 23, 3) := by decide +kernel
theorem dX12_fair_105 : decode cX12_fair 105 = .ok (.aload_n 0, 1) := by decide +kernel
theorem dX12_fair_106 : decode cX12_fair 106 = .ok (.getfield 47, 3) := by decide +kernel
theorem dX12_fair_109 : decode cX12_fair 109 = .ok (.bipush 6, 2) := by decide +kernel
theorem dX12_fair_111 : decode cX12_fair 111 = .ok (.iload_n 2, 1) := by decide +kernel
theorem dX12_fair_112 : decode cX12_fair 112 = .ok (.bipush 100, 2) := by decide +kernel
theorem dX12_fair_114 : decode cX12_fair 114 = .ok (.isub, 1) := by decide +kernel
theorem dX12_fair_115 : decode cX12_fair 115 = .ok (.bipush 10, 2) := by decide +kernel
theorem dX12_fair_117 : decode cX12_fair 117 = .ok (.idiv, 1) := by decide +kernel
theorem dX12_fair_118 : decode cX12_fair 118 = .ok (.imul, 1) := by decide +kernel
theorem dX12_fair_119 : decode cX12_fair 119 = .ok (.iload_n 3, 1) := by decide +kernel
theorem dX12_fair_120 : decode cX12_fair 120 = .ok (.iadd, 1) := by decide +kernel
theorem dX12_fair_121 : decode cX12_fair 121 = .ok (.iaload, 1) := by decide +kernel
theorem dX12_fair_122 : decode cX12_fair 122 = .ok (.goto 4, 3) := by decide +kernel
theorem dX12_fair_125 : decode cX12_fair 125 = .ok (.iconst (-1), 1) := by decide +kernel
theorem dX12_fair_126 : decode cX12_fair 126 = .ok (.ireturn, 1) := by decide +kernel
theorem dX12_fair_127 : decode cX12_fair 127 = .ok (.iload_n 2, 1) := by decide +kernel
theorem dX12_fair_128 : decode cX12_fair 128 = .ok (.bipush 10, 2) := by decide +kernel
theorem dX12_fair_130 : decode cX12_fair 130 = .ok (.idiv, 1) := by decide +kernel
theorem dX12_fair_131 : decode cX12_fair 131 = .ok (.tableswitch 124 0 7 #[45, 65, 65, 65, 84, 84, 104, 104], 45) := by decide +kernel
theorem dX12_fair_176 : decode cX12_fair 176 = .ok (.iload_n 2, 1) := by decide +kernel
theorem dX12_fair_177 : decode cX12_fair 177 = .ok (.iconst 0, 1) := by decide +kernel
theorem dX12_fair_178 : decode cX12_fair 178 = .ok (.bipush 6, 2) := by decide +kernel
theorem dX12_fair_180 : decode cX12_fair 180 = .ok (.invokestatic 84, 3) := by decide +kernel
theorem dX12_fair_183 : decode cX12_fair 183 = .ok (.ifCond .eq 11, 3) := by decide +kernel
theorem dX12_fair_186 : decode cX12_fair 186 = .ok (.aload_n 0, 1) := by decide +kernel
theorem dX12_fair_187 : decode cX12_fair 187 = .ok (.iload_n 2, 1) := by decide +kernel
theorem dX12_fair_188 : decode cX12_fair 188 = .ok (.invokevirtual 244, 3) := by decide +kernel
theorem dX12_fair_191 : decode cX12_fair 191 = .ok (.goto 4, 3) := by decide +kernel
theorem dX12_fair_194 : decode cX12_fair 194 = .ok (.iconst (-1), 1) := by decide +kernel
theorem dX12_fair_195 : decode cX12_fair 195 = .ok (.ireturn, 1) := by decide +kernel
theorem dX12_fair_196 : decode cX12_fair 196 = .ok (.aload_n 0, 1) := by decide +kernel
theorem dX12_fair_197 : decode cX12_fair 197 = .ok (.iload_n 3, 1) := by decide +kernel
theorem dX12_fair_198 : decode cX12_fair 198 = .ok (.iconst 3, 1) := by decide +kernel
theorem dX12_fair_199 : decode cX12_fair 199 = .ok (.bipush 7, 2) := by decide +kernel
theorem dX12_fair_201 : decode cX12_fair 201 = .ok (.bipush 6, 2) := by decide +kernel
theorem dX12_fair_203 : decode cX12_fair 203 = .ok (.iload_n 2, 1) := by decide +kernel
theorem dX12_fair_204 : decode cX12_fair 204 = .ok (.bipush 10, 2) := by decide +kernel
theorem dX12_fair_206 : decode cX12_fair 206 = .ok (.idiv, 1) := by decide +kernel
theorem dX12_fair_207 : decode cX12_fair 207 = .ok (.iconst 1, 1) := by decide +kernel
theorem dX12_fair_208 : decode cX12_fair 208 = .ok (.isub, 1) := by decide +kernel
theorem dX12_fair_209 : decode cX12_fair 209 = .ok (.imul, 1) := by decide +kernel
theorem dX12_fair_210 : decode cX12_fair 210 = .ok (.iadd, 1) := by decide +kernel
theorem dX12_fair_211 : decode cX12_fair 211 = .ok (.invokevirtual 306, 3) := by decide +kernel
theorem dX12_fair_214 : decode cX12_fair 214 = .ok (.ireturn, 1) := by decide +kernel
theorem dX12_fair_215 : decode cX12_fair 215 = .ok (.aload_n 0, 1) := by decide +kernel
theorem dX12_fair_216 : decode cX12_fair 216 = .ok (.iload_n 3, 1) := by decide +kernel
theorem dX12_fair_217 : decode cX12_fair 217 = .ok (.iconst 4, 1) := by decide +kernel
theorem dX12_fair_218 : decode cX12_fair 218 = .ok (.iload_n 2, 1) := by decide +kernel
theorem dX12_fair_219 : decode cX12_fair 219 = .ok (.bipush 50, 2) := by decide +kernel
theorem dX12_fair_221 : decode cX12_fair 221 = .ok (.if_icmp .ge 8, 3) := by decide +kernel
theorem dX12_fair_224 : decode cX12_fair 224 = .ok (.bipush 25, 2) := by decide +kernel
theorem dX12_fair_226 : decode cX12_fair 226 = .ok (.goto 5, 3) := by decide +kernel
theorem dX12_fair_229 : decode cX12_fair 229 = .ok (.bipush 33, 2) := by decide +kernel
theorem dX12_fair_231 : decode cX12_fair 231 = .ok (.invokevirtual 306, 3) := by decide +kernel
theorem dX12_fair_234 : decode cX12_fair 234 = .ok (.ireturn, 1) := by decide +kernel
theorem dX12_fair_235 : decode cX12_fair 235 = .ok (.aload_n 0, 1) := by decide +kernel
theorem dX12_fair_236 : decode cX12_fair 236 = .ok (.iload_n 3, 1) := by decide +kernel
theorem dX12_fair_237 : decode cX12_fair 237 = .ok (.iconst 5, 1) := by decide +kernel
theorem dX12_fair_238 : decode cX12_fair 238 = .ok (.iload_n 2, 1) := by decide +kernel
theorem dX12_fair_239 : decode cX12_fair 239 = .ok (.bipush 70, 2) := by decide +kernel
theorem dX12_fair_241 : decode cX12_fair 241 = .ok (.if_icmp .ge 8, 3) := by decide +kernel
theorem dX12_fair_244 : decode cX12_fair 244 = .ok (.bipush 89, 2) := by decide +kernel
theorem dX12_fair_246 : decode cX12_fair 246 = .ok (.goto 5, 3) := by decide +kernel
theorem dX12_fair_249 : decode cX12_fair 249 = .ok (.bipush 95, 2) := by decide +kernel
theorem dX12_fair_251 : decode cX12_fair 251 = .ok (.invokevirtual 306, 3) := by decide +kernel
theorem dX12_fair_254 : decode cX12_fair 254 = .ok (.ireturn, 1) := by decide +kernel
theorem dX12_fair_255 : decode cX12_fair 255 = .ok (.iconst (-1), 1) := by decide +kernel
theorem dX12_fair_256 : decode cX12_fair 256 = .ok (.ireturn, 1) := by decide +kernel
theorem dX12_deeds_0 : decode cX12_deeds 0 = .ok (.aload_n 0, 1) := by decide +kernel
theorem dX12_deeds_1 : decode cX12_deeds 1 = .ok (.getfield 29, 3) := by decide +kernel
theorem dX12_deeds_4 : decode cX12_deeds 4 = .ok (.sipush 161, 3) := by decide +kernel
theorem dX12_deeds_7 : decode cX12_deeds 7 = .ok (.aload_n 0, 1) := by decide +kernel
theorem dX12_deeds_8 : decode cX12_deeds 8 = .ok (.getfield 310, 3) := by decide +kernel
theorem dX12_deeds_11 : decode cX12_deeds 11 = .ok (.imul, 1) := by decide +kernel
theorem dX12_deeds_12 : decode cX12_deeds 12 = .ok (.iaload, 1) := by decide +kernel
theorem dX12_deeds_13 : decode cX12_deeds 13 = .ok (.ireturn, 1) := by decide +kernel
theorem dX12_deedOf_0 : decode cX12_deedOf 0 = .ok (.aload_n 0, 1) := by decide +kernel
theorem dX12_deedOf_1 : decode cX12_deedOf 1 = .ok (.getfield 29, 3) := by decide +kernel
theorem dX12_deedOf_4 : decode cX12_deedOf 4 = .ok (.sipush 161, 3) := by decide +kernel
theorem dX12_deedOf_7 : decode cX12_deedOf 7 = .ok (.aload_n 0, 1) := by decide +kernel
theorem dX12_deedOf_8 : decode cX12_deedOf 8 = .ok (.getfield 310, 3) := by decide +kernel
theorem dX12_deedOf_11 : decode cX12_deedOf 11 = .ok (.imul, 1) := by decide +kernel
theorem dX12_deedOf_12 : decode cX12_deedOf 12 = .ok (.iconst 1, 1) := by decide +kernel
theorem dX12_deedOf_13 : decode cX12_deedOf 13 = .ok (.iadd, 1) := by decide +kernel
theorem dX12_deedOf_14 : decode cX12_deedOf 14 = .ok (.iconst 4, 1) := by decide +kernel
theorem dX12_deedOf_15 : decode cX12_deedOf 15 = .ok (.iload_n 1, 1) := by decide +kernel
theorem dX12_deedOf_16 : decode cX12_deedOf 16 = .ok (.imul, 1) := by decide +kernel
theorem dX12_deedOf_17 : decode cX12_deedOf 17 = .ok (.iadd, 1) := by decide +kernel
theorem dX12_deedOf_18 : decode cX12_deedOf 18 = .ok (.iload_n 2, 1) := by decide +kernel
theorem dX12_deedOf_19 : decode cX12_deedOf 19 = .ok (.iadd, 1) := by decide +kernel
theorem dX12_deedOf_20 : decode cX12_deedOf 20 = .ok (.iaload, 1) := by decide +kernel
theorem dX12_deedOf_21 : decode cX12_deedOf 21 = .ok (.ireturn, 1) := by decide +kernel
theorem dX12_hasDay_0 : decode cX12_hasDay 0 = .ok (.aload_n 0, 1) := by decide +kernel
theorem dX12_hasDay_1 : decode cX12_hasDay 1 = .ok (.iload_n 1, 1) := by decide +kernel
theorem dX12_hasDay_2 : decode cX12_hasDay 2 = .ok (.putfield 310, 3) := by decide +kernel
theorem dX12_hasDay_5 : decode cX12_hasDay 5 = .ok (.aload_n 0, 1) := by decide +kernel
theorem dX12_hasDay_6 : decode cX12_hasDay 6 = .ok (.iconst 1, 1) := by decide +kernel
theorem dX12_hasDay_7 : decode cX12_hasDay 7 = .ok (.iload_n 1, 1) := by decide +kernel
theorem dX12_hasDay_8 : decode cX12_hasDay 8 = .ok (.invokevirtual 231, 3) := by decide +kernel
theorem dX12_hasDay_11 : decode cX12_hasDay 11 = .ok (.ireturn, 1) := by decide +kernel
theorem dX12_deed_0 : decode cX12_deed 0 = .ok (.aload_n 0, 1) := by decide +kernel
theorem dX12_deed_1 : decode cX12_deed 1 = .ok (.iconst 0, 1) := by decide +kernel
theorem dX12_deed_2 : decode cX12_deed 2 = .ok (.putfield 72, 3) := by decide +kernel
theorem dX12_deed_5 : decode cX12_deed 5 = .ok (.aload_n 0, 1) := by decide +kernel
theorem dX12_deed_6 : decode cX12_deed 6 = .ok (.iload_n 1, 1) := by decide +kernel
theorem dX12_deed_7 : decode cX12_deed 7 = .ok (.invokevirtual 313, 3) := by decide +kernel
theorem dX12_deed_10 : decode cX12_deed 10 = .ok (.ifCond .ne 6, 3) := by decide +kernel
theorem dX12_deed_13 : decode cX12_deed 13 = .ok (.bipush (-2), 2) := by decide +kernel
theorem dX12_deed_15 : decode cX12_deed 15 = .ok (.ireturn, 1) := by decide +kernel
theorem dX12_deed_16 : decode cX12_deed 16 = .ok (.iload_n 2, 1) := by decide +kernel
theorem dX12_deed_17 : decode cX12_deed 17 = .ok (.iconst (-1), 1) := by decide +kernel
theorem dX12_deed_18 : decode cX12_deed 18 = .ok (.if_icmp .ne 17, 3) := by decide +kernel
theorem dX12_deed_21 : decode cX12_deed 21 = .ok (.iload_n 3, 1) := by decide +kernel
theorem dX12_deed_22 : decode cX12_deed 22 = .ok (.ifCond .ne 10, 3) := by decide +kernel
theorem dX12_deed_25 : decode cX12_deed 25 = .ok (.aload_n 0, 1) := by decide +kernel
theorem dX12_deed_26 : decode cX12_deed 26 = .ok (.invokevirtual 316, 3) := by decide +kernel
theorem dX12_deed_29 : decode cX12_deed 29 = .ok (.goto 5, 3) := by decide +kernel
theorem dX12_deed_32 : decode cX12_deed 32 = .ok (.bipush (-2), 2) := by decide +kernel
theorem dX12_deed_34 : decode cX12_deed 34 = .ok (.ireturn, 1) := by decide +kernel
theorem dX12_deed_35 : decode cX12_deed 35 = .ok (.iload_n 2, 1) := by decide +kernel
theorem dX12_deed_36 : decode cX12_deed 36 = .ok (.iconst 0, 1) := by decide +kernel
theorem dX12_deed_37 : decode cX12_deed 37 = .ok (.aload_n 0, 1) := by decide +kernel
theorem dX12_deed_38 : decode cX12_deed 38 = .ok (.invokevirtual 316, 3) := by decide +kernel
theorem dX12_deed_41 : decode cX12_deed 41 = .ok (.iconst 1, 1) := by decide +kernel
theorem dX12_deed_42 : decode cX12_deed 42 = .ok (.isub, 1) := by decide +kernel
theorem dX12_deed_43 : decode cX12_deed 43 = .ok (.invokestatic 84, 3) := by decide +kernel
theorem dX12_deed_46 : decode cX12_deed 46 = .ok (.ifCond .eq 21, 3) := by decide +kernel
theorem dX12_deed_49 : decode cX12_deed 49 = .ok (.iload_n 3, 1) := by decide +kernel
theorem dX12_deed_50 : decode cX12_deed 50 = .ok (.iconst 0, 1) := by decide +kernel
theorem dX12_deed_51 : decode cX12_deed 51 = .ok (.iconst 3, 1) := by decide +kernel
theorem dX12_deed_52 : decode cX12_deed 52 = .ok (.invokestatic 84, 3) := by decide +kernel
theorem dX12_deed_55 : decode cX12_deed 55 = .ok (.ifCond .eq 12, 3) := by decide +kernel
theorem dX12_deed_58 : decode cX12_deed 58 = .ok (.aload_n 0, 1) := by decide +kernel
theorem dX12_deed_59 : decode cX12_deed 59 = .ok (.iload_n 2, 1) := by decide +kernel
theorem dX12_deed_60 : decode cX12_deed 60 = .ok (.iload_n 3, 1) := by decide +kernel
theorem dX12_deed_61 : decode cX12_deed 61 = .ok (.invokevirtual 319, 3) := by decide +kernel
theorem dX12_deed_64 : decode cX12_deed 64 = .ok (.goto 5, 3) := by decide +kernel
theorem dX12_deed_67 : decode cX12_deed 67 = .ok (.bipush (-2), 2) := by decide +kernel
theorem dX12_deed_69 : decode cX12_deed 69 = .ok (.ireturn, 1) := by decide +kernel
theorem dX12_isSlanted_0 : decode cX12_isSlanted 0 = .ok (.aload_n 0, 1) := by decide +kernel
theorem dX12_isSlanted_1 : decode cX12_isSlanted 1 = .ok (.getfield 263, 3) := by decide +kernel
theorem dX12_isSlanted_4 : decode cX12_isSlanted 4 = .ok (.ifCond .eq 16, 3) := by decide +kernel
theorem dX12_isSlanted_7 : decode cX12_isSlanted 7 = .ok (.iload_n 1, 1) := by decide +kernel
theorem dX12_isSlanted_8 : decode cX12_isSlanted 8 = .ok (.aload_n 0, 1) := by decide +kernel
theorem dX12_isSlanted_9 : decode cX12_isSlanted 9 = .ok (.getfield 263, 3) := by decide +kernel
theorem dX12_isSlanted_12 : decode cX12_isSlanted 12 = .ok (.irem, 1) := by decide +kernel
theorem dX12_isSlanted_13 : decode cX12_isSlanted 13 = .ok (.ifCond .ne 7, 3) := by decide +kernel
theorem dX12_isSlanted_16 : decode cX12_isSlanted 16 = .ok (.iconst 1, 1) := by decide +kernel
theorem dX12_isSlanted_17 : decode cX12_isSlanted 17 = .ok (.goto 4, 3) := by decide +kernel
theorem dX12_isSlanted_20 : decode cX12_isSlanted 20 = .ok (.iconst 0, 1) := by decide +kernel
theorem dX12_isSlanted_21 : decode cX12_isSlanted 21 = .ok (.ireturn, 1) := by decide +kernel
theorem dX12_sounds_0 : decode cX12_sounds 0 = .ok (.aload_n 0, 1) := by decide +kernel
theorem dX12_sounds_1 : decode cX12_sounds 1 = .ok (.getfield 266, 3) := by decide +kernel
theorem dX12_sounds_4 : decode cX12_sounds 4 = .ok (.bipush 99, 2) := by decide +kernel
theorem dX12_sounds_6 : decode cX12_sounds 6 = .ok (.if_icmp .ne 5, 3) := by decide +kernel
theorem dX12_sounds_9 : decode cX12_sounds 9 = .ok (.iconst 0, 1) := by decide +kernel
theorem dX12_sounds_10 : decode cX12_sounds 10 = .ok (.ireturn, 1) := by decide +kernel
theorem dX12_sounds_11 : decode cX12_sounds 11 = .ok (.aload_n 0, 1) := by decide +kernel
theorem dX12_sounds_12 : decode cX12_sounds 12 = .ok (.dup, 1) := by decide +kernel
theorem dX12_sounds_13 : decode cX12_sounds 13 = .ok (.getfield 266, 3) := by decide +kernel
theorem dX12_sounds_16 : decode cX12_sounds 16 = .ok (.iconst 1, 1) := by decide +kernel
theorem dX12_sounds_17 : decode cX12_sounds 17 = .ok (.iadd, 1) := by decide +kernel
theorem dX12_sounds_18 : decode cX12_sounds 18 = .ok (.putfield 266, 3) := by decide +kernel
theorem dX12_sounds_21 : decode cX12_sounds 21 = .ok (.aload_n 0, 1) := by decide +kernel
theorem dX12_sounds_22 : decode cX12_sounds 22 = .ok (.aload_n 0, 1) := by decide +kernel
theorem dX12_sounds_23 : decode cX12_sounds 23 = .ok (.invokevirtual 322, 3) := by decide +kernel
theorem dX12_sounds_26 : decode cX12_sounds 26 = .ok (.ifCond .ne 14, 3) := by decide +kernel
theorem dX12_sounds_29 : decode cX12_sounds 29 = .ok (.aload_n 0, 1) := by decide +kernel
theorem dX12_sounds_30 : decode cX12_sounds 30 = .ok (.aload_n 0, 1) := by decide +kernel
theorem dX12_sounds_31 : decode cX12_sounds 31 = .ok (.getfield 266, 3) := by decide +kernel
theorem dX12_sounds_34 : decode cX12_sounds 34 = .ok (.invokevirtual 325, 3) := by decide +kernel
theorem dX12_sounds_37 : decode cX12_sounds 37 = .ok (.ifCond .eq 7, 3) := by decide +kernel
theorem dX12_sounds_40 : decode cX12_sounds 40 = .ok (.iconst 1, 1) := by decide +kernel
theorem dX12_sounds_41 : decode cX12_sounds 41 = .ok (.goto 4, 3) := by decide +kernel
theorem dX12_sounds_44 : decode cX12_sounds 44 = .ok (.iconst 0, 1) := by decide +kernel
theorem dX12_sounds_45 : decode cX12_sounds 45 = .ok (.putfield 272, 3) := by decide +kernel
theorem dX12_sounds_48 : decode cX12_sounds 48 = .ok (.aload_n 0, 1) := by decide +kernel
theorem dX12_sounds_49 : decode cX12_sounds 49 = .ok (.dup, 1) := by decide +kernel
theorem dX12_sounds_50 : decode cX12_sounds 50 = .ok (.getfield 269, 3) := by decide +kernel
theorem dX12_sounds_53 : decode cX12_sounds 53 = .ok (.aload_n 0, 1) := by decide +kernel
theorem dX12_sounds_54 : decode cX12_sounds 54 = .ok (.getfield 272, 3) := by decide +kernel
theorem dX12_sounds_57 : decode cX12_sounds 57 = .ok (.iadd, 1) := by decide +kernel
theorem dX12_sounds_58 : decode cX12_sounds 58 = .ok (.putfield 269, 3) := by decide +kernel
theorem dX12_sounds_61 : decode cX12_sounds 61 = .ok (.iconst 1, 1) := by decide +kernel
theorem dX12_sounds_62 : decode cX12_sounds 62 = .ok (.ireturn, 1) := by decide +kernel
theorem dX12_fitted_0 : decode cX12_fitted 0 = .ok (.aload_n 0, 1) := by decide +kernel
theorem dX12_fitted_1 : decode cX12_fitted 1 = .ok (.getfield 263, 3) := by decide +kernel
theorem dX12_fitted_4 : decode cX12_fitted 4 = .ok (.ifCond .ne 5, 3) := by decide +kernel
theorem dX12_fitted_7 : decode cX12_fitted 7 = .ok (.iconst 0, 1) := by decide +kernel
theorem dX12_fitted_8 : decode cX12_fitted 8 = .ok (.ireturn, 1) := by decide +kernel
theorem dX12_fitted_9 : decode cX12_fitted 9 = .ok (.aload_n 0, 1) := by decide +kernel
theorem dX12_fitted_10 : decode cX12_fitted 10 = .ok (.iconst 0, 1) := by decide +kernel
theorem dX12_fitted_11 : decode cX12_fitted 11 = .ok (.putfield 263, 3) := by decide +kernel
theorem dX12_fitted_14 : decode cX12_fitted 14 = .ok (.iconst 1, 1) := by decide +kernel
theorem dX12_fitted_15 : decode cX12_fitted 15 = .ok (.ireturn, 1) := by decide +kernel
theorem dX12_changes_0 : decode cX12_changes 0 = .ok (.aload_n 0, 1) := by decide +kernel
theorem dX12_changes_1 : decode cX12_changes 1 = .ok (.getfield 47, 3) := by decide +kernel
theorem dX12_changes_4 : decode cX12_changes 4 = .ok (.iload_n 1, 1) := by decide +kernel
theorem dX12_changes_5 : decode cX12_changes 5 = .ok (.iaload, 1) := by decide +kernel
theorem dX12_changes_6 : decode cX12_changes 6 = .ok (.iload_n 2, 1) := by decide +kernel
theorem dX12_changes_7 : decode cX12_changes 7 = .ok (.iadd, 1) := by decide +kernel
theorem dX12_changes_8 : decode cX12_changes 8 = .ok (.iconst 0, 1) := by decide +kernel
theorem dX12_changes_9 : decode cX12_changes 9 = .ok (.bipush 9, 2) := by decide +kernel
theorem dX12_changes_11 : decode cX12_changes 11 = .ok (.invokestatic 84, 3) := by decide +kernel
theorem dX12_changes_14 : decode cX12_changes 14 = .ok (.ifCond .ne 5, 3) := by decide +kernel
theorem dX12_changes_17 : decode cX12_changes 17 = .ok (.iconst 0, 1) := by decide +kernel
theorem dX12_changes_18 : decode cX12_changes 18 = .ok (.ireturn, 1) := by decide +kernel
theorem dX12_changes_19 : decode cX12_changes 19 = .ok (.aload_n 0, 1) := by decide +kernel
theorem dX12_changes_20 : decode cX12_changes 20 = .ok (.getfield 47, 3) := by decide +kernel
theorem dX12_changes_23 : decode cX12_changes 23 = .ok (.iload_n 1, 1) := by decide +kernel
theorem dX12_changes_24 : decode cX12_changes 24 = .ok (.dup2, 1) := by decide +kernel
theorem dX12_changes_25 : decode cX12_changes 25 = .ok (.iaload, 1) := by decide +kernel
theorem dX12_changes_26 : decode cX12_changes 26 = .ok (.iload_n 2, 1) := by decide +kernel
theorem dX12_changes_27 : decode cX12_changes 27 = .ok (.iadd, 1) := by decide +kernel
theorem dX12_changes_28 : decode cX12_changes 28 = .ok (.iastore, 1) := by decide +kernel
theorem dX12_changes_29 : decode cX12_changes 29 = .ok (.iconst 1, 1) := by decide +kernel
theorem dX12_changes_30 : decode cX12_changes 30 = .ok (.ireturn, 1) := by decide +kernel
theorem dX12_does_0 : decode cX12_does 0 = .ok (.iload_n 1, 1) := by decide +kernel
theorem dX12_does_1 : decode cX12_does 1 = .ok (.ifCond .ne 8, 3) := by decide +kernel
theorem dX12_does_4 : decode cX12_does 4 = .ok (.aload_n 0, 1) := by decide +kernel
theorem dX12_does_5 : decode cX12_does 5 = .ok (.invokevirtual 328, 3) := by decide +kernel
theorem dX12_does_8 : decode cX12_does 8 = .ok (.ireturn, 1) := by decide +kernel
theorem dX12_does_9 : decode cX12_does 9 = .ok (.iload_n 1, 1) := by decide +kernel
theorem dX12_does_10 : decode cX12_does 10 = .ok (.iconst 1, 1) := by decide +kernel
theorem dX12_does_11 : decode cX12_does 11 = .ok (.if_icmp .ne 8, 3) := by decide +kernel
theorem dX12_does_14 : decode cX12_does 14 = .ok (.aload_n 0, 1) := by decide +kernel
theorem dX12_does_15 : decode cX12_does 15 = .ok (.invokevirtual 331, 3) := by decide +kernel
theorem dX12_does_18 : decode cX12_does 18 = .ok (.ireturn, 1) := by decide +kernel
theorem dX12_does_19 : decode cX12_does 19 = .ok (.aload_n 0, 1) := by decide +kernel
theorem dX12_does_20 : decode cX12_does 20 = .ok (.iload_n 2, 1) := by decide +kernel
theorem dX12_does_21 : decode cX12_does 21 = .ok (.invokevirtual 303, 3) := by decide +kernel
theorem dX12_does_24 : decode cX12_does 24 = .ok (.ifCond .ne 5, 3) := by decide +kernel
theorem dX12_does_27 : decode cX12_does 27 = .ok (.iconst 0, 1) := by decide +kernel
theorem dX12_does_28 : decode cX12_does 28 = .ok (.ireturn, 1) := by decide +kernel
theorem dX12_does_29 : decode cX12_does 29 = .ok (.iload_n 1, 1) := by decide +kernel
theorem dX12_does_30 : decode cX12_does 30 = .ok (.lookupswitch 81 #[(2, 26), (3, 64)], 26) := by decide +kernel
theorem dX12_does_56 : decode cX12_does 56 = .ok (.aload_n 0, 1) := by decide +kernel
theorem dX12_does_57 : decode cX12_does 57 = .ok (.dup, 1) := by decide +kernel
theorem dX12_does_58 : decode cX12_does 58 = .ok (.getfield 275, 3) := by decide +kernel
theorem dX12_does_61 : decode cX12_does 61 = .ok (.iconst 1, 1) := by decide +kernel
theorem dX12_does_62 : decode cX12_does 62 = .ok (.iload_n 2, 1) := by decide +kernel
theorem dX12_does_63 : decode cX12_does 63 = .ok (.ishl, 1) := by decide +kernel
theorem dX12_does_64 : decode cX12_does 64 = .ok (.ior, 1) := by decide +kernel
theorem dX12_does_65 : decode cX12_does 65 = .ok (.putfield 275, 3) := by decide +kernel
theorem dX12_does_68 : decode cX12_does 68 = .ok (.aload_n 0, 1) := by decide +kernel
theorem dX12_does_69 : decode cX12_does 69 = .ok (.dup, 1) := by decide +kernel
theorem dX12_does_70 : decode cX12_does 70 = .ok (.getfield 278, 3) := by decide +kernel
theorem dX12_does_73 : decode cX12_does 73 = .ok (.aload_n 0, 1) := by decide +kernel
theorem dX12_does_74 : decode cX12_does 74 = .ok (.iload_n 2, 1) := by decide +kernel
theorem dX12_does_75 : decode cX12_does 75 = .ok (.invokevirtual 297, 3) := by decide +kernel
theorem dX12_does_78 : decode cX12_does 78 = .ok (.ifCond .eq 9, 3) := by decide +kernel
theorem dX12_does_81 : decode cX12_does 81 = .ok (.iconst 1, 1) := by decide +kernel
theorem dX12_does_82 : decode cX12_does 82 = .ok (.iload_n 2, 1) := by decide +kernel
theorem dX12_does_83 : decode cX12_does 83 = .ok (.ishl, 1) := by decide +kernel
theorem dX12_does_84 : decode cX12_does 84 = .ok (.goto 4, 3) := by decide +kernel
theorem dX12_does_87 : decode cX12_does 87 = .ok (.iconst 0, 1) := by decide +kernel
theorem dX12_does_88 : decode cX12_does 88 = .ok (.ior, 1) := by decide +kernel
theorem dX12_does_89 : decode cX12_does 89 = .ok (.putfield 278, 3) := by decide +kernel
theorem dX12_does_92 : decode cX12_does 92 = .ok (.iconst 1, 1) := by decide +kernel
theorem dX12_does_93 : decode cX12_does 93 = .ok (.ireturn, 1) := by decide +kernel
theorem dX12_does_94 : decode cX12_does 94 = .ok (.aload_n 0, 1) := by decide +kernel
theorem dX12_does_95 : decode cX12_does 95 = .ok (.getfield 41, 3) := by decide +kernel
theorem dX12_does_98 : decode cX12_does 98 = .ok (.iload_n 2, 1) := by decide +kernel
theorem dX12_does_99 : decode cX12_does 99 = .ok (.iload_n 3, 1) := by decide +kernel
theorem dX12_does_100 : decode cX12_does 100 = .ok (.iastore, 1) := by decide +kernel
theorem dX12_does_101 : decode cX12_does 101 = .ok (.aload_n 0, 1) := by decide +kernel
theorem dX12_does_102 : decode cX12_does 102 = .ok (.getfield 44, 3) := by decide +kernel
theorem dX12_does_105 : decode cX12_does 105 = .ok (.iload_n 2, 1) := by decide +kernel
theorem dX12_does_106 : decode cX12_does 106 = .ok (.iload 4, 2) := by decide +kernel
theorem dX12_does_108 : decode cX12_does 108 = .ok (.iastore, 1) := by decide +kernel
theorem dX12_does_109 : decode cX12_does 109 = .ok (.iconst 1, 1) := by decide +kernel
theorem dX12_does_110 : decode cX12_does 110 = .ok (.ireturn, 1) := by decide +kernel
theorem dX12_does_111 : decode cX12_does 111 = .ok (.aload_n 0, 1) := by decide +kernel
theorem dX12_does_112 : decode cX12_does 112 = .ok (.bipush 6, 2) := by decide +kernel
theorem dX12_does_114 : decode cX12_does 114 = .ok (.iload_n 2, 1) := by decide +kernel
theorem dX12_does_115 : decode cX12_does 115 = .ok (.imul, 1) := by decide +kernel
theorem dX12_does_116 : decode cX12_does 116 = .ok (.iload_n 3, 1) := by decide +kernel
theorem dX12_does_117 : decode cX12_does 117 = .ok (.iadd, 1) := by decide +kernel
theorem dX12_does_118 : decode cX12_does 118 = .ok (.iload_n 1, 1) := by decide +kernel
theorem dX12_does_119 : decode cX12_does 119 = .ok (.iconst 4, 1) := by decide +kernel
theorem dX12_does_120 : decode cX12_does 120 = .ok (.if_icmp .ne 9, 3) := by decide +kernel
theorem dX12_does_123 : decode cX12_does 123 = .ok (.iload 4, 2) := by decide +kernel
theorem dX12_does_125 : decode cX12_does 125 = .ok (.ineg, 1) := by decide +kernel
theorem dX12_does_126 : decode cX12_does 126 = .ok (.goto 5, 3) := by decide +kernel
theorem dX12_does_129 : decode cX12_does 129 = .ok (.iload 4, 2) := by decide +kernel
theorem dX12_does_131 : decode cX12_does 131 = .ok (.invokevirtual 334, 3) := by decide +kernel
theorem dX12_does_134 : decode cX12_does 134 = .ok (.ireturn, 1) := by decide +kernel
theorem dX12_doesDeed_0 : decode cX12_doesDeed 0 = .ok (.aload_n 0, 1) := by decide +kernel
theorem dX12_doesDeed_1 : decode cX12_doesDeed 1 = .ok (.aload_n 0, 1) := by decide +kernel
theorem dX12_doesDeed_2 : decode cX12_doesDeed 2 = .ok (.iload_n 1, 1) := by decide +kernel
theorem dX12_doesDeed_3 : decode cX12_doesDeed 3 = .ok (.iconst 0, 1) := by decide +kernel
theorem dX12_doesDeed_4 : decode cX12_doesDeed 4 = .ok (.invokevirtual 319, 3) := by decide +kernel
theorem dX12_doesDeed_7 : decode cX12_doesDeed 7 = .ok (.aload_n 0, 1) := by decide +kernel
theorem dX12_doesDeed_8 : decode cX12_doesDeed 8 = .ok (.iload_n 1, 1) := by decide +kernel
theorem dX12_doesDeed_9 : decode cX12_doesDeed 9 = .ok (.iconst 1, 1) := by decide +kernel
theorem dX12_doesDeed_10 : decode cX12_doesDeed 10 = .ok (.invokevirtual 319, 3) := by decide +kernel
theorem dX12_doesDeed_13 : decode cX12_doesDeed 13 = .ok (.aload_n 0, 1) := by decide +kernel
theorem dX12_doesDeed_14 : decode cX12_doesDeed 14 = .ok (.iload_n 1, 1) := by decide +kernel
theorem dX12_doesDeed_15 : decode cX12_doesDeed 15 = .ok (.iconst 2, 1) := by decide +kernel
theorem dX12_doesDeed_16 : decode cX12_doesDeed 16 = .ok (.invokevirtual 319, 3) := by decide +kernel
theorem dX12_doesDeed_19 : decode cX12_doesDeed 19 = .ok (.aload_n 0, 1) := by decide +kernel
theorem dX12_doesDeed_20 : decode cX12_doesDeed 20 = .ok (.iload_n 1, 1) := by decide +kernel
theorem dX12_doesDeed_21 : decode cX12_doesDeed 21 = .ok (.iconst 3, 1) := by decide +kernel
theorem dX12_doesDeed_22 : decode cX12_doesDeed 22 = .ok (.invokevirtual 319, 3) := by decide +kernel
theorem dX12_doesDeed_25 : decode cX12_doesDeed 25 = .ok (.invokevirtual 337, 3) := by decide +kernel
theorem dX12_doesDeed_28 : decode cX12_doesDeed 28 = .ok (.ireturn, 1) := by decide +kernel
theorem dX12_play_0 : decode cX12_play 0 = .ok (.iconst 0, 1) := by decide +kernel
theorem dX12_play_1 : decode cX12_play 1 = .ok (.istore_n 2, 1) := by decide +kernel
theorem dX12_play_2 : decode cX12_play 2 = .ok (.iload_n 2, 1) := by decide +kernel
theorem dX12_play_3 : decode cX12_play 3 = .ok (.iload_n 1, 1) := by decide +kernel
theorem dX12_play_4 : decode cX12_play 4 = .ok (.if_icmp .ge 17, 3) := by decide +kernel
theorem dX12_play_7 : decode cX12_play 7 = .ok (.aload_n 0, 1) := by decide +kernel
theorem dX12_play_8 : decode cX12_play 8 = .ok (.iload_n 2, 1) := by decide +kernel
theorem dX12_play_9 : decode cX12_play 9 = .ok (.invokevirtual 341, 3) := by decide +kernel
theorem dX12_play_12 : decode cX12_play 12 = .ok (.ifCond .eq 9, 3) := by decide +kernel
theorem dX12_play_15 : decode cX12_play 15 = .ok (.iinc 2 1, 3) := by decide +kernel
theorem dX12_play_18 : decode cX12_play 18 = .ok (.goto (-16), 3) := by decide +kernel
theorem dX12_play_21 : decode cX12_play 21 = .ok (.iload_n 2, 1) := by decide +kernel
theorem dX12_play_22 : decode cX12_play 22 = .ok (.ireturn, 1) := by decide +kernel
theorem dX12_layAll_0 : decode cX12_layAll 0 = .ok (.aload_n 0, 1) := by decide +kernel
theorem dX12_layAll_1 : decode cX12_layAll 1 = .ok (.iload_n 2, 1) := by decide +kernel
theorem dX12_layAll_2 : decode cX12_layAll 2 = .ok (.invokevirtual 313, 3) := by decide +kernel
theorem dX12_layAll_5 : decode cX12_layAll 5 = .ok (.ifCond .eq 15, 3) := by decide +kernel
theorem dX12_layAll_8 : decode cX12_layAll 8 = .ok (.aload_n 0, 1) := by decide +kernel
theorem dX12_layAll_9 : decode cX12_layAll 9 = .ok (.iload_n 1, 1) := by decide +kernel
theorem dX12_layAll_10 : decode cX12_layAll 10 = .ok (.invokevirtual 300, 3) := by decide +kernel
theorem dX12_layAll_13 : decode cX12_layAll 13 = .ok (.ifCond .eq 7, 3) := by decide +kernel
theorem dX12_layAll_16 : decode cX12_layAll 16 = .ok (.iconst 1, 1) := by decide +kernel
theorem dX12_layAll_17 : decode cX12_layAll 17 = .ok (.goto 4, 3) := by decide +kernel
theorem dX12_layAll_20 : decode cX12_layAll 20 = .ok (.iconst 0, 1) := by decide +kernel
theorem dX12_layAll_21 : decode cX12_layAll 21 = .ok (.ireturn, 1) := by decide +kernel
theorem dX12_till_0 : decode cX12_till 0 = .ok (.aload_n 0, 1) := by decide +kernel
theorem dX12_till_1 : decode cX12_till 1 = .ok (.iconst 0, 1) := by decide +kernel
theorem dX12_till_2 : decode cX12_till 2 = .ok (.putfield 72, 3) := by decide +kernel
theorem dX12_till_5 : decode cX12_till 5 = .ok (.aload_n 0, 1) := by decide +kernel
theorem dX12_till_6 : decode cX12_till 6 = .ok (.iload_n 1, 1) := by decide +kernel
theorem dX12_till_7 : decode cX12_till 7 = .ok (.iload_n 2, 1) := by decide +kernel
theorem dX12_till_8 : decode cX12_till 8 = .ok (.invokevirtual 344, 3) := by decide +kernel
theorem dX12_till_11 : decode cX12_till 11 = .ok (.ifCond .eq 14, 3) := by decide +kernel
theorem dX12_till_14 : decode cX12_till 14 = .ok (.aload_n 0, 1) := by decide +kernel
theorem dX12_till_15 : decode cX12_till 15 = .ok (.aload_n 0, 1) := by decide +kernel
theorem dX12_till_16 : decode cX12_till 16 = .ok (.invokevirtual 316, 3) := by decide +kernel
theorem dX12_till_19 : decode cX12_till 19 = .ok (.invokevirtual 347, 3) := by decide +kernel
theorem dX12_till_22 : decode cX12_till 22 = .ok (.goto 4, 3) := by decide +kernel
theorem dX12_till_25 : decode cX12_till 25 = .ok (.iconst (-1), 1) := by decide +kernel
theorem dX12_till_26 : decode cX12_till 26 = .ok (.ireturn, 1) := by decide +kernel
theorem dX12_ofState_0 : decode cX12_ofState 0 = .ok (.iload_n 1, 1) := by decide +kernel
theorem dX12_ofState_1 : decode cX12_ofState 1 = .ok (.bipush 10, 2) := by decide +kernel
theorem dX12_ofState_3 : decode cX12_ofState 3 = .ok (.irem, 1) := by decide +kernel
theorem dX12_ofState_4 : decode cX12_ofState 4 = .ok (.istore_n 2, 1) := by decide +kernel
theorem dX12_ofState_5 : decode cX12_ofState 5 = .ok (.iload_n 1, 1) := by decide +kernel
theorem dX12_ofState_6 : decode cX12_ofState 6 = .ok (.bipush 100, 2) := by decide +kernel
theorem dX12_ofState_8 : decode cX12_ofState 8 = .ok (.if_icmp .lt 46, 3) := by decide +kernel
theorem dX12_ofState_11 : decode cX12_ofState 11 = .ok (.aload_n 0, 1) := by decide +kernel
theorem dX12_ofState_12 : decode cX12_ofState 12 = .ok (.iload_n 1, 1) := by decide +kernel
theorem dX12_ofState_13 : decode cX12_ofState 13 = .ok (.bipush 100, 2) := by decide +kernel
theorem dX12_ofState_15 : decode cX12_ofState 15 = .ok (.isub, 1) := by decide +kernel
theorem dX12_ofState_16 : decode cX12_ofState 16 = .ok (.bipush 10, 2) := by decide +kernel
theorem dX12_ofState_18 : decode cX12_ofState 18 = .ok (.idiv, 1) := by decide +kernel
theorem dX12_ofState_19 : decode cX12_ofState 19 = .ok (.invokevirtual 303, 3) := by decide +kernel
theorem dX12_ofState_22 : decode cX12_ofState 22 = .ok (.ifCond .eq 29, 3) := by decide +kernel
theorem dX12_ofState_25 : decode cX12_ofState 25 = .ok (.iload_n 2, 1) := by decide +kernel
theorem dX12_ofState_26 : decode cX12_ofState 26 = .ok (.bipush 6, 2) := by decide +kernel
theorem dX12_ofState_28 : decode cX12_ofState 28 = .ok (.if_icmp .ge 23, 3) := by decide +kernel
theorem dX12_ofState_31 : decode cX12_ofState 31 = .ok (.aload_n 0, 1) := by decide +kernel
theorem dX12_ofState_32 : decode cX12_ofState 32 = .ok (.getfield 47, 3) := by decide +kernel
theorem dX12_ofState_35 : decode cX12_ofState 35 = .ok (.bipush 6, 2) := by decide +kernel
theorem dX12_ofState_37 : decode cX12_ofState 37 = .ok (.iload_n 1, 1) := by decide +kernel
theorem dX12_ofState_38 : decode cX12_ofState 38 = .ok (.bipush 100, 2) := by decide +kernel
theorem dX12_ofState_40 : decode cX12_ofState 40 = .ok (.isub, 1) := by decide +kernel
theorem dX12_ofState_41 : decode cX12_ofState 41 = .ok (.bipush 10, 2) := by decide +kernel
theorem dX12_ofState_43 : decode cX12_ofState 43 = .ok (.idiv, 1) := by decide +kernel
theorem dX12_ofState_44 : decode cX12_ofState 44 = .ok (.imul, 1) := by decide +kernel
theorem dX12_ofState_45 : decode cX12_ofState 45 = .ok (.iload_n 2, 1) := by decide +kernel
theorem dX12_ofState_46 : decode cX12_ofState 46 = .ok (.iadd, 1) := by decide +kernel
theorem dX12_ofState_47 : decode cX12_ofState 47 = .ok (.iaload, 1) := by decide +kernel
theorem dX12_ofState_48 : decode cX12_ofState 48 = .ok (.goto 5, 3) := by decide +kernel
theorem dX12_ofState_51 : decode cX12_ofState 51 = .ok (.bipush (-2), 2) := by decide +kernel
theorem dX12_ofState_53 : decode cX12_ofState 53 = .ok (.ireturn, 1) := by decide +kernel
theorem dX12_ofState_54 : decode cX12_ofState 54 = .ok (.iload_n 1, 1) := by decide +kernel
theorem dX12_ofState_55 : decode cX12_ofState 55 = .ok (.bipush 10, 2) := by decide +kernel
theorem dX12_ofState_57 : decode cX12_ofState 57 = .ok (.if_icmp .lt 44, 3) := by decide +kernel
theorem dX12_ofState_60 : decode cX12_ofState 60 = .ok (.iload_n 1, 1) := by decide +kernel
theorem dX12_ofState_61 : decode cX12_ofState 61 = .ok (.bipush 30, 2) := by decide +kernel
theorem dX12_ofState_63 : decode cX12_ofState 63 = .ok (.if_icmp .ge 35, 3) := by decide +kernel
theorem dX12_ofState_66 : decode cX12_ofState 66 = .ok (.iload_n 2, 1) := by decide +kernel
theorem dX12_ofState_67 : decode cX12_ofState 67 = .ok (.aload_n 0, 1) := by decide +kernel
theorem dX12_ofState_68 : decode cX12_ofState 68 = .ok (.getfield 251, 3) := by decide +kernel
theorem dX12_ofState_71 : decode cX12_ofState 71 = .ok (.if_icmp .ge 27, 3) := by decide +kernel
theorem dX12_ofState_74 : decode cX12_ofState 74 = .ok (.iload_n 1, 1) := by decide +kernel
theorem dX12_ofState_75 : decode cX12_ofState 75 = .ok (.bipush 20, 2) := by decide +kernel
theorem dX12_ofState_77 : decode cX12_ofState 77 = .ok (.if_icmp .ge 12, 3) := by decide +kernel
theorem dX12_ofState_80 : decode cX12_ofState 80 = .ok (.aload_n 0, 1) := by decide +kernel
theorem dX12_ofState_81 : decode cX12_ofState 81 = .ok (.getfield 41, 3) := by decide +kernel
theorem dX12_ofState_84 : decode cX12_ofState 84 = .ok (.iload_n 2, 1) := by decide +kernel
theorem dX12_ofState_85 : decode cX12_ofState 85 = .ok (.iaload, 1) := by decide +kernel
theorem dX12_ofState_86 : decode cX12_ofState 86 = .ok (.goto 14, 3) := by decide +kernel
theorem dX12_ofState_89 : decode cX12_ofState 89 = .ok (.aload_n 0, 1) := by decide +kernel
theorem dX12_ofState_90 : decode cX12_ofState 90 = .ok (.getfield 44, 3) := by decide +kernel
theorem dX12_ofState_93 : decode cX12_ofState 93 = .ok (.iload_n 2, 1) := by decide +kernel
theorem dX12_ofState_94 : decode cX12_ofState 94 = .ok (.iaload, 1) := by decide +kernel
theorem dX12_ofState_95 : decode cX12_ofState 95 = .ok (.goto 5, 3) := by decide +kernel
theorem dX12_ofState_98 : decode cX12_ofState 98 = .ok (.bipush (-2), 2) := by decide +kernel
theorem dX12_ofState_100 : decode cX12_ofState 100 = .ok (.ireturn, 1) := by decide +kernel
theorem dX12_ofState_101 : decode cX12_ofState 101 = .ok (.iload_n 1, 1) := by decide +kernel
theorem dX12_ofState_102 : decode cX12_ofState 102 = .ok (.tableswitch 77 0 6 #[42, 47, 52, 57, 62, 67, 72], 42) := by decide +kernel
theorem dX12_ofState_144 : decode cX12_ofState 144 = .ok (.aload_n 0, 1) := by decide +kernel
theorem dX12_ofState_145 : decode cX12_ofState 145 = .ok (.getfield 266, 3) := by decide +kernel
theorem dX12_ofState_148 : decode cX12_ofState 148 = .ok (.ireturn, 1) := by decide +kernel
theorem dX12_ofState_149 : decode cX12_ofState 149 = .ok (.aload_n 0, 1) := by decide +kernel
theorem dX12_ofState_150 : decode cX12_ofState 150 = .ok (.getfield 269, 3) := by decide +kernel
theorem dX12_ofState_153 : decode cX12_ofState 153 = .ok (.ireturn, 1) := by decide +kernel
theorem dX12_ofState_154 : decode cX12_ofState 154 = .ok (.aload_n 0, 1) := by decide +kernel
theorem dX12_ofState_155 : decode cX12_ofState 155 = .ok (.getfield 263, 3) := by decide +kernel
theorem dX12_ofState_158 : decode cX12_ofState 158 = .ok (.ireturn, 1) := by decide +kernel
theorem dX12_ofState_159 : decode cX12_ofState 159 = .ok (.aload_n 0, 1) := by decide +kernel
theorem dX12_ofState_160 : decode cX12_ofState 160 = .ok (.invokevirtual 322, 3) := by decide +kernel
theorem dX12_ofState_163 : decode cX12_ofState 163 = .ok (.ireturn, 1) := by decide +kernel
theorem dX12_ofState_164 : decode cX12_ofState 164 = .ok (.aload_n 0, 1) := by decide +kernel
theorem dX12_ofState_165 : decode cX12_ofState 165 = .ok (.getfield 275, 3) := by decide +kernel
theorem dX12_ofState_168 : decode cX12_ofState 168 = .ok (.ireturn, 1) := by decide +kernel
theorem dX12_ofState_169 : decode cX12_ofState 169 = .ok (.aload_n 0, 1) := by decide +kernel
theorem dX12_ofState_170 : decode cX12_ofState 170 = .ok (.getfield 278, 3) := by decide +kernel
theorem dX12_ofState_173 : decode cX12_ofState 173 = .ok (.ireturn, 1) := by decide +kernel
theorem dX12_ofState_174 : decode cX12_ofState 174 = .ok (.aload_n 0, 1) := by decide +kernel
theorem dX12_ofState_175 : decode cX12_ofState 175 = .ok (.getfield 272, 3) := by decide +kernel
theorem dX12_ofState_178 : decode cX12_ofState 178 = .ok (.ireturn, 1) := by decide +kernel
theorem dX12_ofState_179 : decode cX12_ofState 179 = .ok (.bipush (-2), 2) := by decide +kernel
theorem dX12_ofState_181 : decode cX12_ofState 181 = .ok (.ireturn, 1) := by decide +kernel
theorem dX12_state_0 : decode cX12_state 0 = .ok (.aload_n 0, 1) := by decide +kernel
theorem dX12_state_1 : decode cX12_state 1 = .ok (.iconst 0, 1) := by decide +kernel
theorem dX12_state_2 : decode cX12_state 2 = .ok (.putfield 72, 3) := by decide +kernel
theorem dX12_state_5 : decode cX12_state 5 = .ok (.aload_n 0, 1) := by decide +kernel
theorem dX12_state_6 : decode cX12_state 6 = .ok (.iload_n 1, 1) := by decide +kernel
theorem dX12_state_7 : decode cX12_state 7 = .ok (.iload_n 2, 1) := by decide +kernel
theorem dX12_state_8 : decode cX12_state 8 = .ok (.invokevirtual 344, 3) := by decide +kernel
theorem dX12_state_11 : decode cX12_state 11 = .ok (.ifCond .eq 33, 3) := by decide +kernel
theorem dX12_state_14 : decode cX12_state 14 = .ok (.iload_n 3, 1) := by decide +kernel
theorem dX12_state_15 : decode cX12_state 15 = .ok (.iconst 0, 1) := by decide +kernel
theorem dX12_state_16 : decode cX12_state 16 = .ok (.aload_n 0, 1) := by decide +kernel
theorem dX12_state_17 : decode cX12_state 17 = .ok (.invokevirtual 316, 3) := by decide +kernel
theorem dX12_state_20 : decode cX12_state 20 = .ok (.invokestatic 84, 3) := by decide +kernel
theorem dX12_state_23 : decode cX12_state 23 = .ok (.ifCond .eq 21, 3) := by decide +kernel
theorem dX12_state_26 : decode cX12_state 26 = .ok (.aload_n 0, 1) := by decide +kernel
theorem dX12_state_27 : decode cX12_state 27 = .ok (.iload_n 3, 1) := by decide +kernel
theorem dX12_state_28 : decode cX12_state 28 = .ok (.invokevirtual 347, 3) := by decide +kernel
theorem dX12_state_31 : decode cX12_state 31 = .ok (.iload_n 3, 1) := by decide +kernel
theorem dX12_state_32 : decode cX12_state 32 = .ok (.if_icmp .ne 12, 3) := by decide +kernel
theorem dX12_state_35 : decode cX12_state 35 = .ok (.aload_n 0, 1) := by decide +kernel
theorem dX12_state_36 : decode cX12_state 36 = .ok (.iload 4, 2) := by decide +kernel
theorem dX12_state_38 : decode cX12_state 38 = .ok (.invokevirtual 350, 3) := by decide +kernel
theorem dX12_state_41 : decode cX12_state 41 = .ok (.goto 5, 3) := by decide +kernel
theorem dX12_state_44 : decode cX12_state 44 = .ok (.bipush (-2), 2) := by decide +kernel
theorem dX12_state_46 : decode cX12_state 46 = .ok (.ireturn, 1) := by decide +kernel
theorem dX12_mend_0 : decode cX12_mend 0 = .ok (.aload_n 0, 1) := by decide +kernel
theorem dX12_mend_1 : decode cX12_mend 1 = .ok (.iconst 0, 1) := by decide +kernel
theorem dX12_mend_2 : decode cX12_mend 2 = .ok (.putfield 72, 3) := by decide +kernel
theorem dX12_mend_5 : decode cX12_mend 5 = .ok (.aload_n 0, 1) := by decide +kernel
theorem dX12_mend_6 : decode cX12_mend 6 = .ok (.iload_n 1, 1) := by decide +kernel
theorem dX12_mend_7 : decode cX12_mend 7 = .ok (.invokevirtual 300, 3) := by decide +kernel
theorem dX12_mend_10 : decode cX12_mend 10 = .ok (.ifCond .eq 11, 3) := by decide +kernel
theorem dX12_mend_13 : decode cX12_mend 13 = .ok (.aload_n 0, 1) := by decide +kernel
theorem dX12_mend_14 : decode cX12_mend 14 = .ok (.iload_n 2, 1) := by decide +kernel
theorem dX12_mend_15 : decode cX12_mend 15 = .ok (.invokevirtual 303, 3) := by decide +kernel
theorem dX12_mend_18 : decode cX12_mend 18 = .ok (.ifCond .ne 5, 3) := by decide +kernel
theorem dX12_mend_21 : decode cX12_mend 21 = .ok (.iconst (-1), 1) := by decide +kernel
theorem dX12_mend_22 : decode cX12_mend 22 = .ok (.ireturn, 1) := by decide +kernel
theorem dX12_mend_23 : decode cX12_mend 23 = .ok (.iconst 0, 1) := by decide +kernel
theorem dX12_mend_24 : decode cX12_mend 24 = .ok (.istore_n 3, 1) := by decide +kernel
theorem dX12_mend_25 : decode cX12_mend 25 = .ok (.aload_n 0, 1) := by decide +kernel
theorem dX12_mend_26 : decode cX12_mend 26 = .ok (.iload_n 2, 1) := by decide +kernel
theorem dX12_mend_27 : decode cX12_mend 27 = .ok (.invokevirtual 294, 3) := by decide +kernel
theorem dX12_mend_30 : decode cX12_mend 30 = .ok (.istore 4, 2) := by decide +kernel
theorem dX12_mend_32 : decode cX12_mend 32 = .ok (.iconst 0, 1) := by decide +kernel
theorem dX12_mend_33 : decode cX12_mend 33 = .ok (.istore 5, 2) := by decide +kernel
theorem dX12_mend_35 : decode cX12_mend 35 = .ok (.iload 5, 2) := by decide +kernel
theorem dX12_mend_37 : decode cX12_mend 37 = .ok (.bipush 6, 2) := by decide +kernel
theorem dX12_mend_39 : decode cX12_mend 39 = .ok (.if_icmp .ge 104, 3) := by decide +kernel
theorem dX12_mend_42 : decode cX12_mend 42 = .ok (.bipush 10, 2) := by decide +kernel
theorem dX12_mend_44 : decode cX12_mend 44 = .ok (.istore 6, 2) := by decide +kernel
theorem dX12_mend_46 : decode cX12_mend 46 = .ok (.iconst 0, 1) := by decide +kernel
theorem dX12_mend_47 : decode cX12_mend 47 = .ok (.istore 7, 2) := by decide +kernel
theorem dX12_mend_49 : decode cX12_mend 49 = .ok (.iload 7, 2) := by decide +kernel
theorem dX12_mend_51 : decode cX12_mend 51 = .ok (.aload_n 0, 1) := by decide +kernel
theorem dX12_mend_52 : decode cX12_mend 52 = .ok (.getfield 248, 3) := by decide +kernel
theorem dX12_mend_55 : decode cX12_mend 55 = .ok (.if_icmp .ge 58, 3) := by decide +kernel
theorem dX12_mend_58 : decode cX12_mend 58 = .ok (.aload_n 0, 1) := by decide +kernel
theorem dX12_mend_59 : decode cX12_mend 59 = .ok (.bipush 7, 2) := by decide +kernel
theorem dX12_mend_61 : decode cX12_mend 61 = .ok (.iload 7, 2) := by decide +kernel
theorem dX12_mend_63 : decode cX12_mend 63 = .ok (.iadd, 1) := by decide +kernel
theorem dX12_mend_64 : decode cX12_mend 64 = .ok (.invokevirtual 244, 3) := by decide +kernel
theorem dX12_mend_67 : decode cX12_mend 67 = .ok (.iload 5, 2) := by decide +kernel
theorem dX12_mend_69 : decode cX12_mend 69 = .ok (.if_icmp .ne 34, 3) := by decide +kernel
theorem dX12_mend_72 : decode cX12_mend 72 = .ok (.iload 4, 2) := by decide +kernel
theorem dX12_mend_74 : decode cX12_mend 74 = .ok (.aload_n 0, 1) := by decide +kernel
theorem dX12_mend_75 : decode cX12_mend 75 = .ok (.bipush 13, 2) := by decide +kernel
theorem dX12_mend_77 : decode cX12_mend 77 = .ok (.iload 7, 2) := by decide +kernel
theorem dX12_mend_79 : decode cX12_mend 79 = .ok (.iadd, 1) := by decide +kernel
theorem dX12_mend_80 : decode cX12_mend 80 = .ok (.invokevirtual 244, 3) := by decide +kernel
theorem dX12_mend_83 : decode cX12_mend 83 = .ok (.if_icmp .gt 20, 3) := by decide +kernel
theorem dX12_mend_86 : decode cX12_mend 86 = .ok (.iload 6, 2) := by decide +kernel
theorem dX12_mend_88 : decode cX12_mend 88 = .ok (.aload_n 0, 1) := by decide +kernel
theorem dX12_mend_89 : decode cX12_mend 89 = .ok (.bipush 19, 2) := by decide +kernel
theorem dX12_mend_91 : decode cX12_mend 91 = .ok (.iload 7, 2) := by decide +kernel
theorem dX12_mend_93 : decode cX12_mend 93 = .ok (.iadd, 1) := by decide +kernel
theorem dX12_mend_94 : decode cX12_mend 94 = .ok (.invokevirtual 244, 3) := by decide +kernel
theorem dX12_mend_97 : decode cX12_mend 97 = .ok (.invokestatic 209, 3) := by decide +kernel
theorem dX12_mend_100 : decode cX12_mend 100 = .ok (.goto 5, 3) := by decide +kernel
theorem dX12_mend_103 : decode cX12_mend 103 = .ok (.iload 6, 2) := by decide +kernel
theorem dX12_mend_105 : decode cX12_mend 105 = .ok (.istore 6, 2) := by decide +kernel
theorem dX12_mend_107 : decode cX12_mend 107 = .ok (.iinc 7 1, 3) := by decide +kernel
theorem dX12_mend_110 : decode cX12_mend 110 = .ok (.goto (-61), 3) := by decide +kernel
theorem dX12_mend_113 : decode cX12_mend 113 = .ok (.iload_n 3, 1) := by decide +kernel
theorem dX12_mend_114 : decode cX12_mend 114 = .ok (.iconst 0, 1) := by decide +kernel
theorem dX12_mend_115 : decode cX12_mend 115 = .ok (.aload_n 0, 1) := by decide +kernel
theorem dX12_mend_116 : decode cX12_mend 116 = .ok (.getfield 47, 3) := by decide +kernel
theorem dX12_mend_119 : decode cX12_mend 119 = .ok (.bipush 6, 2) := by decide +kernel
theorem dX12_mend_121 : decode cX12_mend 121 = .ok (.iload_n 2, 1) := by decide +kernel
theorem dX12_mend_122 : decode cX12_mend 122 = .ok (.imul, 1) := by decide +kernel
theorem dX12_mend_123 : decode cX12_mend 123 = .ok (.iload 5, 2) := by decide +kernel
theorem dX12_mend_125 : decode cX12_mend 125 = .ok (.iadd, 1) := by decide +kernel
theorem dX12_mend_126 : decode cX12_mend 126 = .ok (.iaload, 1) := by decide +kernel
