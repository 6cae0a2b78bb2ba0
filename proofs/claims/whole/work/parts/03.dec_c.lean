theorem dX3_init_0 : decode cX3_init 0 = .ok (.aload_n 0, 1) := by decide +kernel
theorem dX3_init_1 : decode cX3_init 1 = .ok (.invokespecial 3, 3) := by decide +kernel
theorem dX3_init_4 : decode cX3_init 4 = .ok (.aload_n 0, 1) := by decide +kernel
theorem dX3_init_5 : decode cX3_init 5 = .ok (.bipush 8, 2) := by decide +kernel
theorem dX3_init_7 : decode cX3_init 7 = .ok (.newarray .int, 2) := by decide +kernel
theorem dX3_init_9 : decode cX3_init 9 = .ok (.putfield 9, 3) := by decide +kernel
theorem dX3_init_12 : decode cX3_init 12 = .ok (.aload_n 0, 1) := by decide +kernel
theorem dX3_init_13 : decode cX3_init 13 = .ok (.bipush 8, 2) := by decide +kernel
theorem dX3_init_15 : decode cX3_init 15 = .ok (.newarray .int, 2) := by decide +kernel
theorem dX3_init_17 : decode cX3_init 17 = .ok (.putfield 15, 3) := by decide +kernel
theorem dX3_init_20 : decode cX3_init 20 = .ok (.aload_n 0, 1) := by decide +kernel
theorem dX3_init_21 : decode cX3_init 21 = .ok (.bipush 8, 2) := by decide +kernel
theorem dX3_init_23 : decode cX3_init 23 = .ok (.newarray .int, 2) := by decide +kernel
theorem dX3_init_25 : decode cX3_init 25 = .ok (.putfield 18, 3) := by decide +kernel
theorem dX3_init_28 : decode cX3_init 28 = .ok (.aload_n 0, 1) := by decide +kernel
theorem dX3_init_29 : decode cX3_init 29 = .ok (.bipush 8, 2) := by decide +kernel
theorem dX3_init_31 : decode cX3_init 31 = .ok (.newarray .int, 2) := by decide +kernel
theorem dX3_init_33 : decode cX3_init 33 = .ok (.putfield 21, 3) := by decide +kernel
theorem dX3_init_36 : decode cX3_init 36 = .ok (.aload_n 0, 1) := by decide +kernel
theorem dX3_init_37 : decode cX3_init 37 = .ok (.bipush 8, 2) := by decide +kernel
theorem dX3_init_39 : decode cX3_init 39 = .ok (.newarray .int, 2) := by decide +kernel
theorem dX3_init_41 : decode cX3_init 41 = .ok (.putfield 24, 3) := by decide +kernel
theorem dX3_init_44 : decode cX3_init 44 = .ok (.return_, 1) := by decide +kernel
theorem dX3_toMend_0 : decode cX3_toMend 0 = .ok (.iconst 0, 1) := by decide +kernel
theorem dX3_toMend_1 : decode cX3_toMend 1 = .ok (.istore_n 2, 1) := by decide +kernel
theorem dX3_toMend_2 : decode cX3_toMend 2 = .ok (.iconst 0, 1) := by decide +kernel
theorem dX3_toMend_3 : decode cX3_toMend 3 = .ok (.istore_n 3, 1) := by decide +kernel
theorem dX3_toMend_4 : decode cX3_toMend 4 = .ok (.iload_n 3, 1) := by decide +kernel
theorem dX3_toMend_5 : decode cX3_toMend 5 = .ok (.bipush 6, 2) := by decide +kernel
theorem dX3_toMend_7 : decode cX3_toMend 7 = .ok (.if_icmp .ge 81, 3) := by decide +kernel
theorem dX3_toMend_10 : decode cX3_toMend 10 = .ok (.iconst 0, 1) := by decide +kernel
theorem dX3_toMend_11 : decode cX3_toMend 11 = .ok (.istore 4, 2) := by decide +kernel
theorem dX3_toMend_13 : decode cX3_toMend 13 = .ok (.iconst 0, 1) := by decide +kernel
theorem dX3_toMend_14 : decode cX3_toMend 14 = .ok (.istore 5, 2) := by decide +kernel
theorem dX3_toMend_16 : decode cX3_toMend 16 = .ok (.iload 5, 2) := by decide +kernel
theorem dX3_toMend_18 : decode cX3_toMend 18 = .ok (.aload_n 0, 1) := by decide +kernel
theorem dX3_toMend_19 : decode cX3_toMend 19 = .ok (.getfield 27, 3) := by decide +kernel
theorem dX3_toMend_22 : decode cX3_toMend 22 = .ok (.if_icmp .ge 55, 3) := by decide +kernel
theorem dX3_toMend_25 : decode cX3_toMend 25 = .ok (.aload_n 0, 1) := by decide +kernel
theorem dX3_toMend_26 : decode cX3_toMend 26 = .ok (.iload 5, 2) := by decide +kernel
theorem dX3_toMend_28 : decode cX3_toMend 28 = .ok (.invokevirtual 33, 3) := by decide +kernel
theorem dX3_toMend_31 : decode cX3_toMend 31 = .ok (.iload_n 3, 1) := by decide +kernel
theorem dX3_toMend_32 : decode cX3_toMend 32 = .ok (.if_icmp .ne 39, 3) := by decide +kernel
theorem dX3_toMend_35 : decode cX3_toMend 35 = .ok (.aload_n 0, 1) := by decide +kernel
theorem dX3_toMend_36 : decode cX3_toMend 36 = .ok (.iload_n 1, 1) := by decide +kernel
theorem dX3_toMend_37 : decode cX3_toMend 37 = .ok (.invokevirtual 37, 3) := by decide +kernel
theorem dX3_toMend_40 : decode cX3_toMend 40 = .ok (.aload_n 0, 1) := by decide +kernel
theorem dX3_toMend_41 : decode cX3_toMend 41 = .ok (.iload 5, 2) := by decide +kernel
theorem dX3_toMend_43 : decode cX3_toMend 43 = .ok (.invokevirtual 40, 3) := by decide +kernel
theorem dX3_toMend_46 : decode cX3_toMend 46 = .ok (.if_icmp .gt 25, 3) := by decide +kernel
theorem dX3_toMend_49 : decode cX3_toMend 49 = .ok (.iload 4, 2) := by decide +kernel
theorem dX3_toMend_51 : decode cX3_toMend 51 = .ok (.aload_n 0, 1) := by decide +kernel
theorem dX3_toMend_52 : decode cX3_toMend 52 = .ok (.iload_n 1, 1) := by decide +kernel
theorem dX3_toMend_53 : decode cX3_toMend 53 = .ok (.iload_n 3, 1) := by decide +kernel
theorem dX3_toMend_54 : decode cX3_toMend 54 = .ok (.invokevirtual 43, 3) := by decide +kernel
theorem dX3_toMend_57 : decode cX3_toMend 57 = .ok (.aload_n 0, 1) := by decide +kernel
theorem dX3_toMend_58 : decode cX3_toMend 58 = .ok (.iload 5, 2) := by decide +kernel
theorem dX3_toMend_60 : decode cX3_toMend 60 = .ok (.invokevirtual 47, 3) := by decide +kernel
theorem dX3_toMend_63 : decode cX3_toMend 63 = .ok (.isub, 1) := by decide +kernel
theorem dX3_toMend_64 : decode cX3_toMend 64 = .ok (.iconst 1, 1) := by decide +kernel
theorem dX3_toMend_65 : decode cX3_toMend 65 = .ok (.iadd, 1) := by decide +kernel
theorem dX3_toMend_66 : decode cX3_toMend 66 = .ok (.invokestatic 50, 3) := by decide +kernel
theorem dX3_toMend_69 : decode cX3_toMend 69 = .ok (.istore 4, 2) := by decide +kernel
theorem dX3_toMend_71 : decode cX3_toMend 71 = .ok (.iinc 5 1, 3) := by decide +kernel
theorem dX3_toMend_74 : decode cX3_toMend 74 = .ok (.goto (-58), 3) := by decide +kernel
theorem dX3_toMend_77 : decode cX3_toMend 77 = .ok (.iload_n 2, 1) := by decide +kernel
theorem dX3_toMend_78 : decode cX3_toMend 78 = .ok (.iload 4, 2) := by decide +kernel
theorem dX3_toMend_80 : decode cX3_toMend 80 = .ok (.iadd, 1) := by decide +kernel
theorem dX3_toMend_81 : decode cX3_toMend 81 = .ok (.istore_n 2, 1) := by decide +kernel
theorem dX3_toMend_82 : decode cX3_toMend 82 = .ok (.iinc 3 1, 3) := by decide +kernel
theorem dX3_toMend_85 : decode cX3_toMend 85 = .ok (.goto (-81), 3) := by decide +kernel
theorem dX3_toMend_88 : decode cX3_toMend 88 = .ok (.iload_n 2, 1) := by decide +kernel
theorem dX3_toMend_89 : decode cX3_toMend 89 = .ok (.ireturn, 1) := by decide +kernel
theorem dX3_questionsForSure_0 : decode cX3_questionsForSure 0 = .ok (.iconst 0, 1) := by decide +kernel
theorem dX3_questionsForSure_1 : decode cX3_questionsForSure 1 = .ok (.istore_n 1, 1) := by decide +kernel
theorem dX3_questionsForSure_2 : decode cX3_questionsForSure 2 = .ok (.iconst 0, 1) := by decide +kernel
theorem dX3_questionsForSure_3 : decode cX3_questionsForSure 3 = .ok (.istore_n 2, 1) := by decide +kernel
theorem dX3_questionsForSure_4 : decode cX3_questionsForSure 4 = .ok (.iload_n 2, 1) := by decide +kernel
theorem dX3_questionsForSure_5 : decode cX3_questionsForSure 5 = .ok (.bipush 8, 2) := by decide +kernel
theorem dX3_questionsForSure_7 : decode cX3_questionsForSure 7 = .ok (.if_icmp .ge 20, 3) := by decide +kernel
theorem dX3_questionsForSure_10 : decode cX3_questionsForSure 10 = .ok (.iconst 1, 1) := by decide +kernel
theorem dX3_questionsForSure_11 : decode cX3_questionsForSure 11 = .ok (.iload_n 2, 1) := by decide +kernel
theorem dX3_questionsForSure_12 : decode cX3_questionsForSure 12 = .ok (.ishl, 1) := by decide +kernel
theorem dX3_questionsForSure_13 : decode cX3_questionsForSure 13 = .ok (.iload_n 0, 1) := by decide +kernel
theorem dX3_questionsForSure_14 : decode cX3_questionsForSure 14 = .ok (.if_icmp .ge 13, 3) := by decide +kernel
theorem dX3_questionsForSure_17 : decode cX3_questionsForSure 17 = .ok (.iload_n 2, 1) := by decide +kernel
theorem dX3_questionsForSure_18 : decode cX3_questionsForSure 18 = .ok (.iconst 1, 1) := by decide +kernel
theorem dX3_questionsForSure_19 : decode cX3_questionsForSure 19 = .ok (.iadd, 1) := by decide +kernel
theorem dX3_questionsForSure_20 : decode cX3_questionsForSure 20 = .ok (.istore_n 1, 1) := by decide +kernel
theorem dX3_questionsForSure_21 : decode cX3_questionsForSure 21 = .ok (.iinc 2 1, 3) := by decide +kernel
theorem dX3_questionsForSure_24 : decode cX3_questionsForSure 24 = .ok (.goto (-20), 3) := by decide +kernel
theorem dX3_questionsForSure_27 : decode cX3_questionsForSure 27 = .ok (.iload_n 1, 1) := by decide +kernel
theorem dX3_questionsForSure_28 : decode cX3_questionsForSure 28 = .ok (.ireturn, 1) := by decide +kernel
theorem dX3_meanQuestions_0 : decode cX3_meanQuestions 0 = .ok (.iconst 0, 1) := by decide +kernel
theorem dX3_meanQuestions_1 : decode cX3_meanQuestions 1 = .ok (.istore_n 3, 1) := by decide +kernel
theorem dX3_meanQuestions_2 : decode cX3_meanQuestions 2 = .ok (.iload_n 3, 1) := by decide +kernel
theorem dX3_meanQuestions_3 : decode cX3_meanQuestions 3 = .ok (.aload_n 1, 1) := by decide +kernel
theorem dX3_meanQuestions_4 : decode cX3_meanQuestions 4 = .ok (.getfield 55, 3) := by decide +kernel
theorem dX3_meanQuestions_7 : decode cX3_meanQuestions 7 = .ok (.if_icmp .ge 24, 3) := by decide +kernel
theorem dX3_meanQuestions_10 : decode cX3_meanQuestions 10 = .ok (.aload_n 0, 1) := by decide +kernel
theorem dX3_meanQuestions_11 : decode cX3_meanQuestions 11 = .ok (.getfield 9, 3) := by decide +kernel
theorem dX3_meanQuestions_14 : decode cX3_meanQuestions 14 = .ok (.iload_n 3, 1) := by decide +kernel
theorem dX3_meanQuestions_15 : decode cX3_meanQuestions 15 = .ok (.aload_n 1, 1) := by decide +kernel
theorem dX3_meanQuestions_16 : decode cX3_meanQuestions 16 = .ok (.iload_n 3, 1) := by decide +kernel
theorem dX3_meanQuestions_17 : decode cX3_meanQuestions 17 = .ok (.invokevirtual 58, 3) := by decide +kernel
theorem dX3_meanQuestions_20 : decode cX3_meanQuestions 20 = .ok (.iconst 1, 1) := by decide +kernel
theorem dX3_meanQuestions_21 : decode cX3_meanQuestions 21 = .ok (.iadd, 1) := by decide +kernel
theorem dX3_meanQuestions_22 : decode cX3_meanQuestions 22 = .ok (.invokestatic 61, 3) := by decide +kernel
theorem dX3_meanQuestions_25 : decode cX3_meanQuestions 25 = .ok (.iinc 3 1, 3) := by decide +kernel
theorem dX3_meanQuestions_28 : decode cX3_meanQuestions 28 = .ok (.goto (-26), 3) := by decide +kernel
theorem dX3_meanQuestions_31 : decode cX3_meanQuestions 31 = .ok (.iconst 0, 1) := by decide +kernel
theorem dX3_meanQuestions_32 : decode cX3_meanQuestions 32 = .ok (.istore_n 3, 1) := by decide +kernel
theorem dX3_meanQuestions_33 : decode cX3_meanQuestions 33 = .ok (.aload_n 1, 1) := by decide +kernel
theorem dX3_meanQuestions_34 : decode cX3_meanQuestions 34 = .ok (.getfield 55, 3) := by decide +kernel
theorem dX3_meanQuestions_37 : decode cX3_meanQuestions 37 = .ok (.istore 4, 2) := by decide +kernel
theorem dX3_meanQuestions_39 : decode cX3_meanQuestions 39 = .ok (.iload 4, 2) := by decide +kernel
theorem dX3_meanQuestions_41 : decode cX3_meanQuestions 41 = .ok (.iconst 1, 1) := by decide +kernel
theorem dX3_meanQuestions_42 : decode cX3_meanQuestions 42 = .ok (.if_icmp .le 51, 3) := by decide +kernel
theorem dX3_meanQuestions_45 : decode cX3_meanQuestions 45 = .ok (.aload_n 0, 1) := by decide +kernel
theorem dX3_meanQuestions_46 : decode cX3_meanQuestions 46 = .ok (.iload 4, 2) := by decide +kernel
theorem dX3_meanQuestions_48 : decode cX3_meanQuestions 48 = .ok (.invokevirtual 67, 3) := by decide +kernel
theorem dX3_meanQuestions_51 : decode cX3_meanQuestions 51 = .ok (.istore 5, 2) := by decide +kernel
theorem dX3_meanQuestions_53 : decode cX3_meanQuestions 53 = .ok (.aload_n 0, 1) := by decide +kernel
theorem dX3_meanQuestions_54 : decode cX3_meanQuestions 54 = .ok (.iload 4, 2) := by decide +kernel
theorem dX3_meanQuestions_56 : decode cX3_meanQuestions 56 = .ok (.iconst 1, 1) := by decide +kernel
theorem dX3_meanQuestions_57 : decode cX3_meanQuestions 57 = .ok (.isub, 1) := by decide +kernel
theorem dX3_meanQuestions_58 : decode cX3_meanQuestions 58 = .ok (.invokevirtual 67, 3) := by decide +kernel
theorem dX3_meanQuestions_61 : decode cX3_meanQuestions 61 = .ok (.istore 6, 2) := by decide +kernel
theorem dX3_meanQuestions_63 : decode cX3_meanQuestions 63 = .ok (.aload_n 0, 1) := by decide +kernel
theorem dX3_meanQuestions_64 : decode cX3_meanQuestions 64 = .ok (.getfield 9, 3) := by decide +kernel
theorem dX3_meanQuestions_67 : decode cX3_meanQuestions 67 = .ok (.iload 4, 2) := by decide +kernel
theorem dX3_meanQuestions_69 : decode cX3_meanQuestions 69 = .ok (.iconst 2, 1) := by decide +kernel
theorem dX3_meanQuestions_70 : decode cX3_meanQuestions 70 = .ok (.isub, 1) := by decide +kernel
theorem dX3_meanQuestions_71 : decode cX3_meanQuestions 71 = .ok (.iload 5, 2) := by decide +kernel
theorem dX3_meanQuestions_73 : decode cX3_meanQuestions 73 = .ok (.iload 6, 2) := by decide +kernel
theorem dX3_meanQuestions_75 : decode cX3_meanQuestions 75 = .ok (.iadd, 1) := by decide +kernel
theorem dX3_meanQuestions_76 : decode cX3_meanQuestions 76 = .ok (.invokestatic 61, 3) := by decide +kernel
theorem dX3_meanQuestions_79 : decode cX3_meanQuestions 79 = .ok (.iload_n 3, 1) := by decide +kernel
theorem dX3_meanQuestions_80 : decode cX3_meanQuestions 80 = .ok (.iload 5, 2) := by decide +kernel
theorem dX3_meanQuestions_82 : decode cX3_meanQuestions 82 = .ok (.iload 6, 2) := by decide +kernel
theorem dX3_meanQuestions_84 : decode cX3_meanQuestions 84 = .ok (.iadd, 1) := by decide +kernel
theorem dX3_meanQuestions_85 : decode cX3_meanQuestions 85 = .ok (.iadd, 1) := by decide +kernel
theorem dX3_meanQuestions_86 : decode cX3_meanQuestions 86 = .ok (.istore_n 3, 1) := by decide +kernel
theorem dX3_meanQuestions_87 : decode cX3_meanQuestions 87 = .ok (.iinc 4 (-1), 3) := by decide +kernel
theorem dX3_meanQuestions_90 : decode cX3_meanQuestions 90 = .ok (.goto (-51), 3) := by decide +kernel
theorem dX3_meanQuestions_93 : decode cX3_meanQuestions 93 = .ok (.iload_n 3, 1) := by decide +kernel
theorem dX3_meanQuestions_94 : decode cX3_meanQuestions 94 = .ok (.i2l, 1) := by decide +kernel
theorem dX3_meanQuestions_95 : decode cX3_meanQuestions 95 = .ok (.aload_n 1, 1) := by decide +kernel
theorem dX3_meanQuestions_96 : decode cX3_meanQuestions 96 = .ok (.invokevirtual 70, 3) := by decide +kernel
theorem dX3_meanQuestions_99 : decode cX3_meanQuestions 99 = .ok (.aload_n 1, 1) := by decide +kernel
theorem dX3_meanQuestions_100 : decode cX3_meanQuestions 100 = .ok (.getfield 55, 3) := by decide +kernel
theorem dX3_meanQuestions_103 : decode cX3_meanQuestions 103 = .ok (.iadd, 1) := by decide +kernel
theorem dX3_meanQuestions_104 : decode cX3_meanQuestions 104 = .ok (.i2l, 1) := by decide +kernel
theorem dX3_meanQuestions_105 : decode cX3_meanQuestions 105 = .ok (.iload_n 2, 1) := by decide +kernel
theorem dX3_meanQuestions_106 : decode cX3_meanQuestions 106 = .ok (.invokestatic 74, 3) := by decide +kernel
theorem dX3_meanQuestions_109 : decode cX3_meanQuestions 109 = .ok (.l2i, 1) := by decide +kernel
theorem dX3_meanQuestions_110 : decode cX3_meanQuestions 110 = .ok (.ireturn, 1) := by decide +kernel
theorem dX3_takeLightest_0 : decode cX3_takeLightest 0 = .ok (.iconst 0, 1) := by decide +kernel
theorem dX3_takeLightest_1 : decode cX3_takeLightest 1 = .ok (.istore_n 2, 1) := by decide +kernel
theorem dX3_takeLightest_2 : decode cX3_takeLightest 2 = .ok (.iconst 1, 1) := by decide +kernel
theorem dX3_takeLightest_3 : decode cX3_takeLightest 3 = .ok (.istore_n 3, 1) := by decide +kernel
theorem dX3_takeLightest_4 : decode cX3_takeLightest 4 = .ok (.iload_n 3, 1) := by decide +kernel
theorem dX3_takeLightest_5 : decode cX3_takeLightest 5 = .ok (.iload_n 1, 1) := by decide +kernel
theorem dX3_takeLightest_6 : decode cX3_takeLightest 6 = .ok (.if_icmp .ge 30, 3) := by decide +kernel
theorem dX3_takeLightest_9 : decode cX3_takeLightest 9 = .ok (.aload_n 0, 1) := by decide +kernel
theorem dX3_takeLightest_10 : decode cX3_takeLightest 10 = .ok (.getfield 9, 3) := by decide +kernel
theorem dX3_takeLightest_13 : decode cX3_takeLightest 13 = .ok (.iload_n 3, 1) := by decide +kernel
theorem dX3_takeLightest_14 : decode cX3_takeLightest 14 = .ok (.invokestatic 78, 3) := by decide +kernel
theorem dX3_takeLightest_17 : decode cX3_takeLightest 17 = .ok (.aload_n 0, 1) := by decide +kernel
theorem dX3_takeLightest_18 : decode cX3_takeLightest 18 = .ok (.getfield 9, 3) := by decide +kernel
theorem dX3_takeLightest_21 : decode cX3_takeLightest 21 = .ok (.iload_n 2, 1) := by decide +kernel
theorem dX3_takeLightest_22 : decode cX3_takeLightest 22 = .ok (.invokestatic 78, 3) := by decide +kernel
theorem dX3_takeLightest_25 : decode cX3_takeLightest 25 = .ok (.if_icmp .ge 5, 3) := by decide +kernel
theorem dX3_takeLightest_28 : decode cX3_takeLightest 28 = .ok (.iload_n 3, 1) := by decide +kernel
theorem dX3_takeLightest_29 : decode cX3_takeLightest 29 = .ok (.istore_n 2, 1) := by decide +kernel
theorem dX3_takeLightest_30 : decode cX3_takeLightest 30 = .ok (.iinc 3 1, 3) := by decide +kernel
theorem dX3_takeLightest_33 : decode cX3_takeLightest 33 = .ok (.goto (-29), 3) := by decide +kernel
theorem dX3_takeLightest_36 : decode cX3_takeLightest 36 = .ok (.aload_n 0, 1) := by decide +kernel
theorem dX3_takeLightest_37 : decode cX3_takeLightest 37 = .ok (.getfield 9, 3) := by decide +kernel
theorem dX3_takeLightest_40 : decode cX3_takeLightest 40 = .ok (.iload_n 2, 1) := by decide +kernel
theorem dX3_takeLightest_41 : decode cX3_takeLightest 41 = .ok (.invokestatic 78, 3) := by decide +kernel
theorem dX3_takeLightest_44 : decode cX3_takeLightest 44 = .ok (.istore_n 3, 1) := by decide +kernel
theorem dX3_takeLightest_45 : decode cX3_takeLightest 45 = .ok (.aload_n 0, 1) := by decide +kernel
theorem dX3_takeLightest_46 : decode cX3_takeLightest 46 = .ok (.getfield 9, 3) := by decide +kernel
theorem dX3_takeLightest_49 : decode cX3_takeLightest 49 = .ok (.iload_n 2, 1) := by decide +kernel
theorem dX3_takeLightest_50 : decode cX3_takeLightest 50 = .ok (.aload_n 0, 1) := by decide +kernel
theorem dX3_takeLightest_51 : decode cX3_takeLightest 51 = .ok (.getfield 9, 3) := by decide +kernel
theorem dX3_takeLightest_54 : decode cX3_takeLightest 54 = .ok (.iload_n 1, 1) := by decide +kernel
theorem dX3_takeLightest_55 : decode cX3_takeLightest 55 = .ok (.iconst 1, 1) := by decide +kernel
theorem dX3_takeLightest_56 : decode cX3_takeLightest 56 = .ok (.isub, 1) := by decide +kernel
theorem dX3_takeLightest_57 : decode cX3_takeLightest 57 = .ok (.invokestatic 78, 3) := by decide +kernel
theorem dX3_takeLightest_60 : decode cX3_takeLightest 60 = .ok (.invokestatic 61, 3) := by decide +kernel
theorem dX3_takeLightest_63 : decode cX3_takeLightest 63 = .ok (.iload_n 3, 1) := by decide +kernel
theorem dX3_takeLightest_64 : decode cX3_takeLightest 64 = .ok (.ireturn, 1) := by decide +kernel
theorem dX3_withoutWrongs_0 : decode cX3_withoutWrongs 0 = .ok (.iconst 0, 1) := by decide +kernel
theorem dX3_withoutWrongs_1 : decode cX3_withoutWrongs 1 = .ok (.istore_n 1, 1) := by decide +kernel
theorem dX3_withoutWrongs_2 : decode cX3_withoutWrongs 2 = .ok (.iconst 0, 1) := by decide +kernel
theorem dX3_withoutWrongs_3 : decode cX3_withoutWrongs 3 = .ok (.istore_n 2, 1) := by decide +kernel
theorem dX3_withoutWrongs_4 : decode cX3_withoutWrongs 4 = .ok (.iload_n 2, 1) := by decide +kernel
theorem dX3_withoutWrongs_5 : decode cX3_withoutWrongs 5 = .ok (.aload_n 0, 1) := by decide +kernel
theorem dX3_withoutWrongs_6 : decode cX3_withoutWrongs 6 = .ok (.getfield 55, 3) := by decide +kernel
theorem dX3_withoutWrongs_9 : decode cX3_withoutWrongs 9 = .ok (.if_icmp .ge 23, 3) := by decide +kernel
theorem dX3_withoutWrongs_12 : decode cX3_withoutWrongs 12 = .ok (.aload_n 0, 1) := by decide +kernel
theorem dX3_withoutWrongs_13 : decode cX3_withoutWrongs 13 = .ok (.iload_n 2, 1) := by decide +kernel
theorem dX3_withoutWrongs_14 : decode cX3_withoutWrongs 14 = .ok (.invokevirtual 58, 3) := by decide +kernel
theorem dX3_withoutWrongs_17 : decode cX3_withoutWrongs 17 = .ok (.ifCond .ne 9, 3) := by decide +kernel
theorem dX3_withoutWrongs_20 : decode cX3_withoutWrongs 20 = .ok (.iload_n 1, 1) := by decide +kernel
theorem dX3_withoutWrongs_21 : decode cX3_withoutWrongs 21 = .ok (.iconst 1, 1) := by decide +kernel
theorem dX3_withoutWrongs_22 : decode cX3_withoutWrongs 22 = .ok (.iload_n 2, 1) := by decide +kernel
theorem dX3_withoutWrongs_23 : decode cX3_withoutWrongs 23 = .ok (.ishl, 1) := by decide +kernel
theorem dX3_withoutWrongs_24 : decode cX3_withoutWrongs 24 = .ok (.ior, 1) := by decide +kernel
theorem dX3_withoutWrongs_25 : decode cX3_withoutWrongs 25 = .ok (.istore_n 1, 1) := by decide +kernel
theorem dX3_withoutWrongs_26 : decode cX3_withoutWrongs 26 = .ok (.iinc 2 1, 3) := by decide +kernel
theorem dX3_withoutWrongs_29 : decode cX3_withoutWrongs 29 = .ok (.goto (-25), 3) := by decide +kernel
theorem dX3_withoutWrongs_32 : decode cX3_withoutWrongs 32 = .ok (.iload_n 1, 1) := by decide +kernel
theorem dX3_withoutWrongs_33 : decode cX3_withoutWrongs 33 = .ok (.ireturn, 1) := by decide +kernel
theorem dX3_worst_0 : decode cX3_worst 0 = .ok (.iconst (-1), 1) := by decide +kernel
theorem dX3_worst_1 : decode cX3_worst 1 = .ok (.istore_n 1, 1) := by decide +kernel
theorem dX3_worst_2 : decode cX3_worst 2 = .ok (.iconst (-1), 1) := by decide +kernel
theorem dX3_worst_3 : decode cX3_worst 3 = .ok (.istore_n 2, 1) := by decide +kernel
theorem dX3_worst_4 : decode cX3_worst 4 = .ok (.iconst 0, 1) := by decide +kernel
theorem dX3_worst_5 : decode cX3_worst 5 = .ok (.istore_n 3, 1) := by decide +kernel
theorem dX3_worst_6 : decode cX3_worst 6 = .ok (.iload_n 3, 1) := by decide +kernel
theorem dX3_worst_7 : decode cX3_worst 7 = .ok (.aload_n 0, 1) := by decide +kernel
theorem dX3_worst_8 : decode cX3_worst 8 = .ok (.getfield 55, 3) := by decide +kernel
theorem dX3_worst_11 : decode cX3_worst 11 = .ok (.if_icmp .ge 26, 3) := by decide +kernel
theorem dX3_worst_14 : decode cX3_worst 14 = .ok (.aload_n 0, 1) := by decide +kernel
theorem dX3_worst_15 : decode cX3_worst 15 = .ok (.iload_n 3, 1) := by decide +kernel
theorem dX3_worst_16 : decode cX3_worst 16 = .ok (.invokevirtual 58, 3) := by decide +kernel
theorem dX3_worst_19 : decode cX3_worst 19 = .ok (.iload_n 2, 1) := by decide +kernel
theorem dX3_worst_20 : decode cX3_worst 20 = .ok (.if_icmp .le 11, 3) := by decide +kernel
theorem dX3_worst_23 : decode cX3_worst 23 = .ok (.aload_n 0, 1) := by decide +kernel
theorem dX3_worst_24 : decode cX3_worst 24 = .ok (.iload_n 3, 1) := by decide +kernel
theorem dX3_worst_25 : decode cX3_worst 25 = .ok (.invokevirtual 58, 3) := by decide +kernel
theorem dX3_worst_28 : decode cX3_worst 28 = .ok (.istore_n 2, 1) := by decide +kernel
theorem dX3_worst_29 : decode cX3_worst 29 = .ok (.iload_n 3, 1) := by decide +kernel
theorem dX3_worst_30 : decode cX3_worst 30 = .ok (.istore_n 1, 1) := by decide +kernel
theorem dX3_worst_31 : decode cX3_worst 31 = .ok (.iinc 3 1, 3) := by decide +kernel
theorem dX3_worst_34 : decode cX3_worst 34 = .ok (.goto (-28), 3) := by decide +kernel
theorem dX3_worst_37 : decode cX3_worst 37 = .ok (.iload_n 1, 1) := by decide +kernel
theorem dX3_worst_38 : decode cX3_worst 38 = .ok (.ireturn, 1) := by decide +kernel
theorem dX3_mostKind_0 : decode cX3_mostKind 0 = .ok (.iconst 0, 1) := by decide +kernel
theorem dX3_mostKind_1 : decode cX3_mostKind 1 = .ok (.istore_n 1, 1) := by decide +kernel
theorem dX3_mostKind_2 : decode cX3_mostKind 2 = .ok (.iconst 1, 1) := by decide +kernel
theorem dX3_mostKind_3 : decode cX3_mostKind 3 = .ok (.istore_n 2, 1) := by decide +kernel
theorem dX3_mostKind_4 : decode cX3_mostKind 4 = .ok (.iload_n 2, 1) := by decide +kernel
theorem dX3_mostKind_5 : decode cX3_mostKind 5 = .ok (.bipush 6, 2) := by decide +kernel
theorem dX3_mostKind_7 : decode cX3_mostKind 7 = .ok (.if_icmp .ge 24, 3) := by decide +kernel
theorem dX3_mostKind_10 : decode cX3_mostKind 10 = .ok (.aload_n 0, 1) := by decide +kernel
theorem dX3_mostKind_11 : decode cX3_mostKind 11 = .ok (.iload_n 2, 1) := by decide +kernel
theorem dX3_mostKind_12 : decode cX3_mostKind 12 = .ok (.invokevirtual 82, 3) := by decide +kernel
theorem dX3_mostKind_15 : decode cX3_mostKind 15 = .ok (.aload_n 0, 1) := by decide +kernel
theorem dX3_mostKind_16 : decode cX3_mostKind 16 = .ok (.iload_n 1, 1) := by decide +kernel
theorem dX3_mostKind_17 : decode cX3_mostKind 17 = .ok (.invokevirtual 82, 3) := by decide +kernel
theorem dX3_mostKind_20 : decode cX3_mostKind 20 = .ok (.if_icmp .le 5, 3) := by decide +kernel
theorem dX3_mostKind_23 : decode cX3_mostKind 23 = .ok (.iload_n 2, 1) := by decide +kernel
theorem dX3_mostKind_24 : decode cX3_mostKind 24 = .ok (.istore_n 1, 1) := by decide +kernel
theorem dX3_mostKind_25 : decode cX3_mostKind 25 = .ok (.iinc 2 1, 3) := by decide +kernel
theorem dX3_mostKind_28 : decode cX3_mostKind 28 = .ok (.goto (-24), 3) := by decide +kernel
theorem dX3_mostKind_31 : decode cX3_mostKind 31 = .ok (.iload_n 1, 1) := by decide +kernel
theorem dX3_mostKind_32 : decode cX3_mostKind 32 = .ok (.ireturn, 1) := by decide +kernel
theorem dX3_tree_0 : decode cX3_tree 0 = .ok (.iconst 0, 1) := by decide +kernel
theorem dX3_tree_1 : decode cX3_tree 1 = .ok (.istore_n 2, 1) := by decide +kernel
theorem dX3_tree_2 : decode cX3_tree 2 = .ok (.iload_n 2, 1) := by decide +kernel
theorem dX3_tree_3 : decode cX3_tree 3 = .ok (.aload_n 1, 1) := by decide +kernel
theorem dX3_tree_4 : decode cX3_tree 4 = .ok (.getfield 55, 3) := by decide +kernel
theorem dX3_tree_7 : decode cX3_tree 7 = .ok (.if_icmp .ge 22, 3) := by decide +kernel
theorem dX3_tree_10 : decode cX3_tree 10 = .ok (.aload_n 0, 1) := by decide +kernel
theorem dX3_tree_11 : decode cX3_tree 11 = .ok (.getfield 15, 3) := by decide +kernel
theorem dX3_tree_14 : decode cX3_tree 14 = .ok (.iload_n 2, 1) := by decide +kernel
theorem dX3_tree_15 : decode cX3_tree 15 = .ok (.aload_n 1, 1) := by decide +kernel
theorem dX3_tree_16 : decode cX3_tree 16 = .ok (.iload_n 2, 1) := by decide +kernel
theorem dX3_tree_17 : decode cX3_tree 17 = .ok (.invokevirtual 37, 3) := by decide +kernel
theorem dX3_tree_20 : decode cX3_tree 20 = .ok (.invokestatic 61, 3) := by decide +kernel
theorem dX3_tree_23 : decode cX3_tree 23 = .ok (.iinc 2 1, 3) := by decide +kernel
theorem dX3_tree_26 : decode cX3_tree 26 = .ok (.goto (-24), 3) := by decide +kernel
theorem dX3_tree_29 : decode cX3_tree 29 = .ok (.iconst 0, 1) := by decide +kernel
theorem dX3_tree_30 : decode cX3_tree 30 = .ok (.istore_n 2, 1) := by decide +kernel
theorem dX3_tree_31 : decode cX3_tree 31 = .ok (.iconst 0, 1) := by decide +kernel
theorem dX3_tree_32 : decode cX3_tree 32 = .ok (.istore_n 3, 1) := by decide +kernel
theorem dX3_tree_33 : decode cX3_tree 33 = .ok (.iconst 0, 1) := by decide +kernel
theorem dX3_tree_34 : decode cX3_tree 34 = .ok (.istore 4, 2) := by decide +kernel
theorem dX3_tree_36 : decode cX3_tree 36 = .ok (.iload 4, 2) := by decide +kernel
theorem dX3_tree_38 : decode cX3_tree 38 = .ok (.aload_n 1, 1) := by decide +kernel
theorem dX3_tree_39 : decode cX3_tree 39 = .ok (.getfield 55, 3) := by decide +kernel
theorem dX3_tree_42 : decode cX3_tree 42 = .ok (.if_icmp .ge 86, 3) := by decide +kernel
theorem dX3_tree_45 : decode cX3_tree 45 = .ok (.aload_n 0, 1) := by decide +kernel
theorem dX3_tree_46 : decode cX3_tree 46 = .ok (.aload_n 1, 1) := by decide +kernel
theorem dX3_tree_47 : decode cX3_tree 47 = .ok (.getfield 55, 3) := by decide +kernel
theorem dX3_tree_50 : decode cX3_tree 50 = .ok (.iload_n 2, 1) := by decide +kernel
theorem dX3_tree_51 : decode cX3_tree 51 = .ok (.invokevirtual 85, 3) := by decide +kernel
theorem dX3_tree_54 : decode cX3_tree 54 = .ok (.istore 5, 2) := by decide +kernel
theorem dX3_tree_56 : decode cX3_tree 56 = .ok (.iload_n 2, 1) := by decide +kernel
theorem dX3_tree_57 : decode cX3_tree 57 = .ok (.iconst 1, 1) := by decide +kernel
theorem dX3_tree_58 : decode cX3_tree 58 = .ok (.iload 5, 2) := by decide +kernel
theorem dX3_tree_60 : decode cX3_tree 60 = .ok (.ishl, 1) := by decide +kernel
theorem dX3_tree_61 : decode cX3_tree 61 = .ok (.ior, 1) := by decide +kernel
theorem dX3_tree_62 : decode cX3_tree 62 = .ok (.istore_n 2, 1) := by decide +kernel
theorem dX3_tree_63 : decode cX3_tree 63 = .ok (.iload_n 3, 1) := by decide +kernel
theorem dX3_tree_64 : decode cX3_tree 64 = .ok (.aload_n 0, 1) := by decide +kernel
theorem dX3_tree_65 : decode cX3_tree 65 = .ok (.getfield 15, 3) := by decide +kernel
theorem dX3_tree_68 : decode cX3_tree 68 = .ok (.iload 5, 2) := by decide +kernel
theorem dX3_tree_70 : decode cX3_tree 70 = .ok (.invokestatic 78, 3) := by decide +kernel
theorem dX3_tree_73 : decode cX3_tree 73 = .ok (.iadd, 1) := by decide +kernel
theorem dX3_tree_74 : decode cX3_tree 74 = .ok (.istore_n 3, 1) := by decide +kernel
theorem dX3_tree_75 : decode cX3_tree 75 = .ok (.iconst 0, 1) := by decide +kernel
theorem dX3_tree_76 : decode cX3_tree 76 = .ok (.istore 6, 2) := by decide +kernel
theorem dX3_tree_78 : decode cX3_tree 78 = .ok (.iload 6, 2) := by decide +kernel
theorem dX3_tree_80 : decode cX3_tree 80 = .ok (.aload_n 1, 1) := by decide +kernel
theorem dX3_tree_81 : decode cX3_tree 81 = .ok (.getfield 55, 3) := by decide +kernel
theorem dX3_tree_84 : decode cX3_tree 84 = .ok (.if_icmp .ge 38, 3) := by decide +kernel
theorem dX3_tree_87 : decode cX3_tree 87 = .ok (.aload_n 0, 1) := by decide +kernel
theorem dX3_tree_88 : decode cX3_tree 88 = .ok (.getfield 15, 3) := by decide +kernel
theorem dX3_tree_91 : decode cX3_tree 91 = .ok (.iload 6, 2) := by decide +kernel
theorem dX3_tree_93 : decode cX3_tree 93 = .ok (.aload_n 0, 1) := by decide +kernel
theorem dX3_tree_94 : decode cX3_tree 94 = .ok (.getfield 15, 3) := by decide +kernel
theorem dX3_tree_97 : decode cX3_tree 97 = .ok (.iload 6, 2) := by decide +kernel
theorem dX3_tree_99 : decode cX3_tree 99 = .ok (.invokestatic 78, 3) := by decide +kernel
theorem dX3_tree_102 : decode cX3_tree 102 = .ok (.aload_n 1, 1) := by decide +kernel
theorem dX3_tree_103 : decode cX3_tree 103 = .ok (.iload 5, 2) := by decide +kernel
theorem dX3_tree_105 : decode cX3_tree 105 = .ok (.iload 6, 2) := by decide +kernel
theorem dX3_tree_107 : decode cX3_tree 107 = .ok (.invokestatic 88, 3) := by decide +kernel
theorem dX3_tree_110 : decode cX3_tree 110 = .ok (.invokestatic 92, 3) := by decide +kernel
theorem dX3_tree_113 : decode cX3_tree 113 = .ok (.invokestatic 61, 3) := by decide +kernel
theorem dX3_tree_116 : decode cX3_tree 116 = .ok (.iinc 6 1, 3) := by decide +kernel
theorem dX3_tree_119 : decode cX3_tree 119 = .ok (.goto (-41), 3) := by decide +kernel
theorem dX3_tree_122 : decode cX3_tree 122 = .ok (.iinc 4 1, 3) := by decide +kernel
theorem dX3_tree_125 : decode cX3_tree 125 = .ok (.goto (-89), 3) := by decide +kernel
theorem dX3_tree_128 : decode cX3_tree 128 = .ok (.iload_n 3, 1) := by decide +kernel
theorem dX3_tree_129 : decode cX3_tree 129 = .ok (.ireturn, 1) := by decide +kernel
theorem dX3_nearestApart_0 : decode cX3_nearestApart 0 = .ok (.iconst 0, 1) := by decide +kernel
theorem dX3_nearestApart_1 : decode cX3_nearestApart 1 = .ok (.istore_n 3, 1) := by decide +kernel
theorem dX3_nearestApart_2 : decode cX3_nearestApart 2 = .ok (.bipush 19, 2) := by decide +kernel
theorem dX3_nearestApart_4 : decode cX3_nearestApart 4 = .ok (.istore 4, 2) := by decide +kernel
theorem dX3_nearestApart_6 : decode cX3_nearestApart 6 = .ok (.iconst 0, 1) := by decide +kernel
theorem dX3_nearestApart_7 : decode cX3_nearestApart 7 = .ok (.istore 5, 2) := by decide +kernel
theorem dX3_nearestApart_9 : decode cX3_nearestApart 9 = .ok (.iload 5, 2) := by decide +kernel
theorem dX3_nearestApart_11 : decode cX3_nearestApart 11 = .ok (.iload_n 1, 1) := by decide +kernel
theorem dX3_nearestApart_12 : decode cX3_nearestApart 12 = .ok (.if_icmp .ge 46, 3) := by decide +kernel
theorem dX3_nearestApart_15 : decode cX3_nearestApart 15 = .ok (.iload_n 2, 1) := by decide +kernel
theorem dX3_nearestApart_16 : decode cX3_nearestApart 16 = .ok (.iload 5, 2) := by decide +kernel
theorem dX3_nearestApart_18 : decode cX3_nearestApart 18 = .ok (.ishr, 1) := by decide +kernel
theorem dX3_nearestApart_19 : decode cX3_nearestApart 19 = .ok (.iconst 1, 1) := by decide +kernel
theorem dX3_nearestApart_20 : decode cX3_nearestApart 20 = .ok (.iand, 1) := by decide +kernel
theorem dX3_nearestApart_21 : decode cX3_nearestApart 21 = .ok (.ifCond .ne 31, 3) := by decide +kernel
theorem dX3_nearestApart_24 : decode cX3_nearestApart 24 = .ok (.aload_n 0, 1) := by decide +kernel
theorem dX3_nearestApart_25 : decode cX3_nearestApart 25 = .ok (.getfield 15, 3) := by decide +kernel
theorem dX3_nearestApart_28 : decode cX3_nearestApart 28 = .ok (.iload 5, 2) := by decide +kernel
theorem dX3_nearestApart_30 : decode cX3_nearestApart 30 = .ok (.invokestatic 78, 3) := by decide +kernel
theorem dX3_nearestApart_33 : decode cX3_nearestApart 33 = .ok (.iload 4, 2) := by decide +kernel
theorem dX3_nearestApart_35 : decode cX3_nearestApart 35 = .ok (.if_icmp .ge 17, 3) := by decide +kernel
theorem dX3_nearestApart_38 : decode cX3_nearestApart 38 = .ok (.aload_n 0, 1) := by decide +kernel
theorem dX3_nearestApart_39 : decode cX3_nearestApart 39 = .ok (.getfield 15, 3) := by decide +kernel
theorem dX3_nearestApart_42 : decode cX3_nearestApart 42 = .ok (.iload 5, 2) := by decide +kernel
theorem dX3_nearestApart_44 : decode cX3_nearestApart 44 = .ok (.invokestatic 78, 3) := by decide +kernel
theorem dX3_nearestApart_47 : decode cX3_nearestApart 47 = .ok (.istore 4, 2) := by decide +kernel
theorem dX3_nearestApart_49 : decode cX3_nearestApart 49 = .ok (.iload 5, 2) := by decide +kernel
theorem dX3_nearestApart_51 : decode cX3_nearestApart 51 = .ok (.istore_n 3, 1) := by decide +kernel
theorem dX3_nearestApart_52 : decode cX3_nearestApart 52 = .ok (.iinc 5 1, 3) := by decide +kernel
theorem dX3_nearestApart_55 : decode cX3_nearestApart 55 = .ok (.goto (-46), 3) := by decide +kernel
theorem dX3_nearestApart_58 : decode cX3_nearestApart 58 = .ok (.iload_n 3, 1) := by decide +kernel
theorem dX3_nearestApart_59 : decode cX3_nearestApart 59 = .ok (.ireturn, 1) := by decide +kernel
theorem dX3_between_0 : decode cX3_between 0 = .ok (.aload_n 0, 1) := by decide +kernel
theorem dX3_between_1 : decode cX3_between 1 = .ok (.iload_n 1, 1) := by decide +kernel
theorem dX3_between_2 : decode cX3_between 2 = .ok (.aload_n 0, 1) := by decide +kernel
theorem dX3_between_3 : decode cX3_between 3 = .ok (.iload_n 2, 1) := by decide +kernel
theorem dX3_between_4 : decode cX3_between 4 = .ok (.invokevirtual 95, 3) := by decide +kernel
theorem dX3_between_7 : decode cX3_between 7 = .ok (.aload_n 0, 1) := by decide +kernel
theorem dX3_between_8 : decode cX3_between 8 = .ok (.iload_n 2, 1) := by decide +kernel
theorem dX3_between_9 : decode cX3_between 9 = .ok (.invokevirtual 98, 3) := by decide +kernel
theorem dX3_between_12 : decode cX3_between 12 = .ok (.invokevirtual 101, 3) := by decide +kernel
theorem dX3_between_15 : decode cX3_between 15 = .ok (.ireturn, 1) := by decide +kernel
theorem dX3_nearestTwo_0 : decode cX3_nearestTwo 0 = .ok (.iconst (-1), 1) := by decide +kernel
theorem dX3_nearestTwo_1 : decode cX3_nearestTwo 1 = .ok (.istore_n 1, 1) := by decide +kernel
theorem dX3_nearestTwo_2 : decode cX3_nearestTwo 2 = .ok (.bipush 19, 2) := by decide +kernel
theorem dX3_nearestTwo_4 : decode cX3_nearestTwo 4 = .ok (.istore_n 2, 1) := by decide +kernel
theorem dX3_nearestTwo_5 : decode cX3_nearestTwo 5 = .ok (.iconst 0, 1) := by decide +kernel
theorem dX3_nearestTwo_6 : decode cX3_nearestTwo 6 = .ok (.istore_n 3, 1) := by decide +kernel
theorem dX3_nearestTwo_7 : decode cX3_nearestTwo 7 = .ok (.iload_n 3, 1) := by decide +kernel
theorem dX3_nearestTwo_8 : decode cX3_nearestTwo 8 = .ok (.aload_n 0, 1) := by decide +kernel
theorem dX3_nearestTwo_9 : decode cX3_nearestTwo 9 = .ok (.getfield 55, 3) := by decide +kernel
theorem dX3_nearestTwo_12 : decode cX3_nearestTwo 12 = .ok (.if_icmp .ge 56, 3) := by decide +kernel
theorem dX3_nearestTwo_15 : decode cX3_nearestTwo 15 = .ok (.iload_n 3, 1) := by decide +kernel
theorem dX3_nearestTwo_16 : decode cX3_nearestTwo 16 = .ok (.iconst 1, 1) := by decide +kernel
theorem dX3_nearestTwo_17 : decode cX3_nearestTwo 17 = .ok (.iadd, 1) := by decide +kernel
theorem dX3_nearestTwo_18 : decode cX3_nearestTwo 18 = .ok (.istore 4, 2) := by decide +kernel
theorem dX3_nearestTwo_20 : decode cX3_nearestTwo 20 = .ok (.iload 4, 2) := by decide +kernel
theorem dX3_nearestTwo_22 : decode cX3_nearestTwo 22 = .ok (.aload_n 0, 1) := by decide +kernel
theorem dX3_nearestTwo_23 : decode cX3_nearestTwo 23 = .ok (.getfield 55, 3) := by decide +kernel
theorem dX3_nearestTwo_26 : decode cX3_nearestTwo 26 = .ok (.if_icmp .ge 36, 3) := by decide +kernel
theorem dX3_nearestTwo_29 : decode cX3_nearestTwo 29 = .ok (.aload_n 0, 1) := by decide +kernel
theorem dX3_nearestTwo_30 : decode cX3_nearestTwo 30 = .ok (.iload_n 3, 1) := by decide +kernel
theorem dX3_nearestTwo_31 : decode cX3_nearestTwo 31 = .ok (.iload 4, 2) := by decide +kernel
theorem dX3_nearestTwo_33 : decode cX3_nearestTwo 33 = .ok (.invokestatic 88, 3) := by decide +kernel
theorem dX3_nearestTwo_36 : decode cX3_nearestTwo 36 = .ok (.iload_n 2, 1) := by decide +kernel
theorem dX3_nearestTwo_37 : decode cX3_nearestTwo 37 = .ok (.if_icmp .ge 19, 3) := by decide +kernel
theorem dX3_nearestTwo_40 : decode cX3_nearestTwo 40 = .ok (.aload_n 0, 1) := by decide +kernel
theorem dX3_nearestTwo_41 : decode cX3_nearestTwo 41 = .ok (.iload_n 3, 1) := by decide +kernel
theorem dX3_nearestTwo_42 : decode cX3_nearestTwo 42 = .ok (.iload 4, 2) := by decide +kernel
theorem dX3_nearestTwo_44 : decode cX3_nearestTwo 44 = .ok (.invokestatic 88, 3) := by decide +kernel
theorem dX3_nearestTwo_47 : decode cX3_nearestTwo 47 = .ok (.istore_n 2, 1) := by decide +kernel
theorem dX3_nearestTwo_48 : decode cX3_nearestTwo 48 = .ok (.bipush 10, 2) := by decide +kernel
theorem dX3_nearestTwo_50 : decode cX3_nearestTwo 50 = .ok (.iload_n 3, 1) := by decide +kernel
theorem dX3_nearestTwo_51 : decode cX3_nearestTwo 51 = .ok (.imul, 1) := by decide +kernel
theorem dX3_nearestTwo_52 : decode cX3_nearestTwo 52 = .ok (.iload 4, 2) := by decide +kernel
theorem dX3_nearestTwo_54 : decode cX3_nearestTwo 54 = .ok (.iadd, 1) := by decide +kernel
theorem dX3_nearestTwo_55 : decode cX3_nearestTwo 55 = .ok (.istore_n 1, 1) := by decide +kernel
theorem dX3_nearestTwo_56 : decode cX3_nearestTwo 56 = .ok (.iinc 4 1, 3) := by decide +kernel
theorem dX3_nearestTwo_59 : decode cX3_nearestTwo 59 = .ok (.goto (-39), 3) := by decide +kernel
theorem dX3_nearestTwo_62 : decode cX3_nearestTwo 62 = .ok (.iinc 3 1, 3) := by decide +kernel
theorem dX3_nearestTwo_65 : decode cX3_nearestTwo 65 = .ok (.goto (-58), 3) := by decide +kernel
theorem dX3_nearestTwo_68 : decode cX3_nearestTwo 68 = .ok (.iload_n 1, 1) := by decide +kernel
theorem dX3_nearestTwo_69 : decode cX3_nearestTwo 69 = .ok (.ireturn, 1) := by decide +kernel
theorem dX3_betweenNearest_0 : decode cX3_betweenNearest 0 = .ok (.aload_n 0, 1) := by decide +kernel
theorem dX3_betweenNearest_1 : decode cX3_betweenNearest 1 = .ok (.invokestatic 105, 3) := by decide +kernel
theorem dX3_betweenNearest_4 : decode cX3_betweenNearest 4 = .ok (.istore_n 1, 1) := by decide +kernel
theorem dX3_betweenNearest_5 : decode cX3_betweenNearest 5 = .ok (.iload_n 1, 1) := by decide +kernel
theorem dX3_betweenNearest_6 : decode cX3_betweenNearest 6 = .ok (.ifCond .ge 7, 3) := by decide +kernel
theorem dX3_betweenNearest_9 : decode cX3_betweenNearest 9 = .ok (.iconst 0, 1) := by decide +kernel
theorem dX3_betweenNearest_10 : decode cX3_betweenNearest 10 = .ok (.goto 15, 3) := by decide +kernel
theorem dX3_betweenNearest_13 : decode cX3_betweenNearest 13 = .ok (.aload_n 0, 1) := by decide +kernel
theorem dX3_betweenNearest_14 : decode cX3_betweenNearest 14 = .ok (.iload_n 1, 1) := by decide +kernel
theorem dX3_betweenNearest_15 : decode cX3_betweenNearest 15 = .ok (.bipush 10, 2) := by decide +kernel
theorem dX3_betweenNearest_17 : decode cX3_betweenNearest 17 = .ok (.idiv, 1) := by decide +kernel
theorem dX3_betweenNearest_18 : decode cX3_betweenNearest 18 = .ok (.iload_n 1, 1) := by decide +kernel
theorem dX3_betweenNearest_19 : decode cX3_betweenNearest 19 = .ok (.bipush 10, 2) := by decide +kernel
theorem dX3_betweenNearest_21 : decode cX3_betweenNearest 21 = .ok (.irem, 1) := by decide +kernel
theorem dX3_betweenNearest_22 : decode cX3_betweenNearest 22 = .ok (.invokestatic 88, 3) := by decide +kernel
theorem dX3_betweenNearest_25 : decode cX3_betweenNearest 25 = .ok (.ireturn, 1) := by decide +kernel
theorem dX3_farToAll_0 : decode cX3_farToAll 0 = .ok (.iconst 0, 1) := by decide +kernel
theorem dX3_farToAll_1 : decode cX3_farToAll 1 = .ok (.istore_n 2, 1) := by decide +kernel
theorem dX3_farToAll_2 : decode cX3_farToAll 2 = .ok (.iconst 0, 1) := by decide +kernel
theorem dX3_farToAll_3 : decode cX3_farToAll 3 = .ok (.istore_n 3, 1) := by decide +kernel
theorem dX3_farToAll_4 : decode cX3_farToAll 4 = .ok (.iload_n 3, 1) := by decide +kernel
theorem dX3_farToAll_5 : decode cX3_farToAll 5 = .ok (.aload_n 0, 1) := by decide +kernel
theorem dX3_farToAll_6 : decode cX3_farToAll 6 = .ok (.getfield 55, 3) := by decide +kernel
theorem dX3_farToAll_9 : decode cX3_farToAll 9 = .ok (.if_icmp .ge 25, 3) := by decide +kernel
theorem dX3_farToAll_12 : decode cX3_farToAll 12 = .ok (.iload_n 2, 1) := by decide +kernel
theorem dX3_farToAll_13 : decode cX3_farToAll 13 = .ok (.aload_n 0, 1) := by decide +kernel
theorem dX3_farToAll_14 : decode cX3_farToAll 14 = .ok (.iload_n 3, 1) := by decide +kernel
theorem dX3_farToAll_15 : decode cX3_farToAll 15 = .ok (.iload_n 1, 1) := by decide +kernel
theorem dX3_farToAll_16 : decode cX3_farToAll 16 = .ok (.bipush 10, 2) := by decide +kernel
theorem dX3_farToAll_18 : decode cX3_farToAll 18 = .ok (.idiv, 1) := by decide +kernel
theorem dX3_farToAll_19 : decode cX3_farToAll 19 = .ok (.iload_n 1, 1) := by decide +kernel
theorem dX3_farToAll_20 : decode cX3_farToAll 20 = .ok (.bipush 10, 2) := by decide +kernel
theorem dX3_farToAll_22 : decode cX3_farToAll 22 = .ok (.irem, 1) := by decide +kernel
theorem dX3_farToAll_23 : decode cX3_farToAll 23 = .ok (.invokevirtual 101, 3) := by decide +kernel
theorem dX3_farToAll_26 : decode cX3_farToAll 26 = .ok (.iadd, 1) := by decide +kernel
theorem dX3_farToAll_27 : decode cX3_farToAll 27 = .ok (.istore_n 2, 1) := by decide +kernel
theorem dX3_farToAll_28 : decode cX3_farToAll 28 = .ok (.iinc 3 1, 3) := by decide +kernel
theorem dX3_farToAll_31 : decode cX3_farToAll 31 = .ok (.goto (-27), 3) := by decide +kernel
theorem dX3_farToAll_34 : decode cX3_farToAll 34 = .ok (.iload_n 2, 1) := by decide +kernel
theorem dX3_farToAll_35 : decode cX3_farToAll 35 = .ok (.ireturn, 1) := by decide +kernel
theorem dX3_middle_0 : decode cX3_middle 0 = .ok (.iconst 0, 1) := by decide +kernel
theorem dX3_middle_1 : decode cX3_middle 1 = .ok (.istore_n 1, 1) := by decide +kernel
theorem dX3_middle_2 : decode cX3_middle 2 = .ok (.aload_n 0, 1) := by decide +kernel
theorem dX3_middle_3 : decode cX3_middle 3 = .ok (.iconst 0, 1) := by decide +kernel
theorem dX3_middle_4 : decode cX3_middle 4 = .ok (.invokestatic 109, 3) := by decide +kernel
theorem dX3_middle_7 : decode cX3_middle 7 = .ok (.istore_n 2, 1) := by decide +kernel
theorem dX3_middle_8 : decode cX3_middle 8 = .ok (.iconst 1, 1) := by decide +kernel
theorem dX3_middle_9 : decode cX3_middle 9 = .ok (.istore_n 3, 1) := by decide +kernel
theorem dX3_middle_10 : decode cX3_middle 10 = .ok (.iload_n 3, 1) := by decide +kernel
theorem dX3_middle_11 : decode cX3_middle 11 = .ok (.bipush 100, 2) := by decide +kernel
theorem dX3_middle_13 : decode cX3_middle 13 = .ok (.if_icmp .ge 27, 3) := by decide +kernel
theorem dX3_middle_16 : decode cX3_middle 16 = .ok (.aload_n 0, 1) := by decide +kernel
theorem dX3_middle_17 : decode cX3_middle 17 = .ok (.iload_n 3, 1) := by decide +kernel
theorem dX3_middle_18 : decode cX3_middle 18 = .ok (.invokestatic 109, 3) := by decide +kernel
theorem dX3_middle_21 : decode cX3_middle 21 = .ok (.istore 4, 2) := by decide +kernel
theorem dX3_middle_23 : decode cX3_middle 23 = .ok (.iload 4, 2) := by decide +kernel
theorem dX3_middle_25 : decode cX3_middle 25 = .ok (.iload_n 2, 1) := by decide +kernel
theorem dX3_middle_26 : decode cX3_middle 26 = .ok (.if_icmp .ge 8, 3) := by decide +kernel
theorem dX3_middle_29 : decode cX3_middle 29 = .ok (.iload 4, 2) := by decide +kernel
theorem dX3_middle_31 : decode cX3_middle 31 = .ok (.istore_n 2, 1) := by decide +kernel
theorem dX3_middle_32 : decode cX3_middle 32 = .ok (.iload_n 3, 1) := by decide +kernel
theorem dX3_middle_33 : decode cX3_middle 33 = .ok (.istore_n 1, 1) := by decide +kernel
theorem dX3_middle_34 : decode cX3_middle 34 = .ok (.iinc 3 1, 3) := by decide +kernel
theorem dX3_middle_37 : decode cX3_middle 37 = .ok (.goto (-27), 3) := by decide +kernel
theorem dX3_middle_40 : decode cX3_middle 40 = .ok (.iload_n 1, 1) := by decide +kernel
theorem dX3_middle_41 : decode cX3_middle 41 = .ok (.ireturn, 1) := by decide +kernel
theorem dX3_matches_0 : decode cX3_matches 0 = .ok (.iconst 0, 1) := by decide +kernel
theorem dX3_matches_1 : decode cX3_matches 1 = .ok (.istore_n 3, 1) := by decide +kernel
theorem dX3_matches_2 : decode cX3_matches 2 = .ok (.iload_n 3, 1) := by decide +kernel
theorem dX3_matches_3 : decode cX3_matches 3 = .ok (.bipush 6, 2) := by decide +kernel
theorem dX3_matches_5 : decode cX3_matches 5 = .ok (.if_icmp .ge 26, 3) := by decide +kernel
theorem dX3_matches_8 : decode cX3_matches 8 = .ok (.aload_n 0, 1) := by decide +kernel
theorem dX3_matches_9 : decode cX3_matches 9 = .ok (.iload_n 1, 1) := by decide +kernel
theorem dX3_matches_10 : decode cX3_matches 10 = .ok (.iload_n 3, 1) := by decide +kernel
theorem dX3_matches_11 : decode cX3_matches 11 = .ok (.invokevirtual 43, 3) := by decide +kernel
theorem dX3_matches_14 : decode cX3_matches 14 = .ok (.aload_n 0, 1) := by decide +kernel
theorem dX3_matches_15 : decode cX3_matches 15 = .ok (.iload_n 2, 1) := by decide +kernel
theorem dX3_matches_16 : decode cX3_matches 16 = .ok (.iload_n 3, 1) := by decide +kernel
theorem dX3_matches_17 : decode cX3_matches 17 = .ok (.invokevirtual 43, 3) := by decide +kernel
theorem dX3_matches_20 : decode cX3_matches 20 = .ok (.if_icmp .ge 5, 3) := by decide +kernel
theorem dX3_matches_23 : decode cX3_matches 23 = .ok (.iconst 0, 1) := by decide +kernel
theorem dX3_matches_24 : decode cX3_matches 24 = .ok (.ireturn, 1) := by decide +kernel
theorem dX3_matches_25 : decode cX3_matches 25 = .ok (.iinc 3 1, 3) := by decide +kernel
theorem dX3_matches_28 : decode cX3_matches 28 = .ok (.goto (-26), 3) := by decide +kernel
theorem dX3_matches_31 : decode cX3_matches 31 = .ok (.iconst 1, 1) := by decide +kernel
theorem dX3_matches_32 : decode cX3_matches 32 = .ok (.ireturn, 1) := by decide +kernel
theorem dX3_twins_0 : decode cX3_twins 0 = .ok (.iconst 0, 1) := by decide +kernel
theorem dX3_twins_1 : decode cX3_twins 1 = .ok (.istore_n 1, 1) := by decide +kernel
theorem dX3_twins_2 : decode cX3_twins 2 = .ok (.iconst 0, 1) := by decide +kernel
theorem dX3_twins_3 : decode cX3_twins 3 = .ok (.istore_n 2, 1) := by decide +kernel
theorem dX3_twins_4 : decode cX3_twins 4 = .ok (.iload_n 2, 1) := by decide +kernel
theorem dX3_twins_5 : decode cX3_twins 5 = .ok (.aload_n 0, 1) := by decide +kernel
theorem dX3_twins_6 : decode cX3_twins 6 = .ok (.getfield 55, 3) := by decide +kernel
theorem dX3_twins_9 : decode cX3_twins 9 = .ok (.if_icmp .ge 48, 3) := by decide +kernel
theorem dX3_twins_12 : decode cX3_twins 12 = .ok (.iload_n 2, 1) := by decide +kernel
theorem dX3_twins_13 : decode cX3_twins 13 = .ok (.iconst 1, 1) := by decide +kernel
theorem dX3_twins_14 : decode cX3_twins 14 = .ok (.iadd, 1) := by decide +kernel
theorem dX3_twins_15 : decode cX3_twins 15 = .ok (.istore_n 3, 1) := by decide +kernel
theorem dX3_twins_16 : decode cX3_twins 16 = .ok (.iload_n 3, 1) := by decide +kernel
theorem dX3_twins_17 : decode cX3_twins 17 = .ok (.aload_n 0, 1) := by decide +kernel
theorem dX3_twins_18 : decode cX3_twins 18 = .ok (.getfield 55, 3) := by decide +kernel
theorem dX3_twins_21 : decode cX3_twins 21 = .ok (.if_icmp .ge 30, 3) := by decide +kernel
theorem dX3_twins_24 : decode cX3_twins 24 = .ok (.aload_n 0, 1) := by decide +kernel
theorem dX3_twins_25 : decode cX3_twins 25 = .ok (.iload_n 2, 1) := by decide +kernel
theorem dX3_twins_26 : decode cX3_twins 26 = .ok (.iload_n 3, 1) := by decide +kernel
theorem dX3_twins_27 : decode cX3_twins 27 = .ok (.invokestatic 113, 3) := by decide +kernel
theorem dX3_twins_30 : decode cX3_twins 30 = .ok (.ifCond .eq 15, 3) := by decide +kernel
theorem dX3_twins_33 : decode cX3_twins 33 = .ok (.aload_n 0, 1) := by decide +kernel
theorem dX3_twins_34 : decode cX3_twins 34 = .ok (.iload_n 3, 1) := by decide +kernel
theorem dX3_twins_35 : decode cX3_twins 35 = .ok (.iload_n 2, 1) := by decide +kernel
theorem dX3_twins_36 : decode cX3_twins 36 = .ok (.invokestatic 113, 3) := by decide +kernel
theorem dX3_twins_39 : decode cX3_twins 39 = .ok (.ifCond .eq 6, 3) := by decide +kernel
theorem dX3_twins_42 : decode cX3_twins 42 = .ok (.iinc 1 1, 3) := by decide +kernel
theorem dX3_twins_45 : decode cX3_twins 45 = .ok (.iinc 3 1, 3) := by decide +kernel
theorem dX3_twins_48 : decode cX3_twins 48 = .ok (.goto (-32), 3) := by decide +kernel
theorem dX3_twins_51 : decode cX3_twins 51 = .ok (.iinc 2 1, 3) := by decide +kernel
theorem dX3_twins_54 : decode cX3_twins 54 = .ok (.goto (-50), 3) := by decide +kernel
theorem dX3_twins_57 : decode cX3_twins 57 = .ok (.iload_n 1, 1) := by decide +kernel
theorem dX3_twins_58 : decode cX3_twins 58 = .ok (.ireturn, 1) := by decide +kernel
theorem dX3_climb_0 : decode cX3_climb 0 = .ok (.aload_n 0, 1) := by decide +kernel
theorem dX3_climb_1 : decode cX3_climb 1 = .ok (.aload_n 1, 1) := by decide +kernel
theorem dX3_climb_2 : decode cX3_climb 2 = .ok (.invokevirtual 117, 3) := by decide +kernel
theorem dX3_climb_5 : decode cX3_climb 5 = .ok (.iconst 0, 1) := by decide +kernel
theorem dX3_climb_6 : decode cX3_climb 6 = .ok (.istore_n 2, 1) := by decide +kernel
theorem dX3_climb_7 : decode cX3_climb 7 = .ok (.iconst 1, 1) := by decide +kernel
theorem dX3_climb_8 : decode cX3_climb 8 = .ok (.istore_n 3, 1) := by decide +kernel
theorem dX3_climb_9 : decode cX3_climb 9 = .ok (.iload_n 3, 1) := by decide +kernel
theorem dX3_climb_10 : decode cX3_climb 10 = .ok (.aload_n 1, 1) := by decide +kernel
theorem dX3_climb_11 : decode cX3_climb 11 = .ok (.getfield 55, 3) := by decide +kernel
theorem dX3_climb_14 : decode cX3_climb 14 = .ok (.if_icmp .gt 60, 3) := by decide +kernel
theorem dX3_climb_17 : decode cX3_climb 17 = .ok (.iconst 0, 1) := by decide +kernel
theorem dX3_climb_18 : decode cX3_climb 18 = .ok (.istore 4, 2) := by decide +kernel
theorem dX3_climb_20 : decode cX3_climb 20 = .ok (.iload 4, 2) := by decide +kernel
theorem dX3_climb_22 : decode cX3_climb 22 = .ok (.aload_n 1, 1) := by decide +kernel
theorem dX3_climb_23 : decode cX3_climb 23 = .ok (.getfield 55, 3) := by decide +kernel
theorem dX3_climb_26 : decode cX3_climb 26 = .ok (.if_icmp .ge 42, 3) := by decide +kernel
theorem dX3_climb_29 : decode cX3_climb 29 = .ok (.iload_n 3, 1) := by decide +kernel
theorem dX3_climb_30 : decode cX3_climb 30 = .ok (.iconst 1, 1) := by decide +kernel
theorem dX3_climb_31 : decode cX3_climb 31 = .ok (.if_icmp .eq 19, 3) := by decide +kernel
theorem dX3_climb_34 : decode cX3_climb 34 = .ok (.aload_n 0, 1) := by decide +kernel
theorem dX3_climb_35 : decode cX3_climb 35 = .ok (.aload_n 1, 1) := by decide +kernel
theorem dX3_climb_36 : decode cX3_climb 36 = .ok (.getfield 55, 3) := by decide +kernel
theorem dX3_climb_39 : decode cX3_climb 39 = .ok (.iload 4, 2) := by decide +kernel
theorem dX3_climb_41 : decode cX3_climb 41 = .ok (.iload_n 3, 1) := by decide +kernel
theorem dX3_climb_42 : decode cX3_climb 42 = .ok (.iconst 1, 1) := by decide +kernel
theorem dX3_climb_43 : decode cX3_climb 43 = .ok (.isub, 1) := by decide +kernel
theorem dX3_climb_44 : decode cX3_climb 44 = .ok (.invokevirtual 121, 3) := by decide +kernel
theorem dX3_climb_47 : decode cX3_climb 47 = .ok (.ifCond .eq 15, 3) := by decide +kernel
theorem dX3_climb_50 : decode cX3_climb 50 = .ok (.aload_n 0, 1) := by decide +kernel
theorem dX3_climb_51 : decode cX3_climb 51 = .ok (.getfield 21, 3) := by decide +kernel
theorem dX3_climb_54 : decode cX3_climb 54 = .ok (.iload 4, 2) := by decide +kernel
theorem dX3_climb_56 : decode cX3_climb 56 = .ok (.iload_n 3, 1) := by decide +kernel
theorem dX3_climb_57 : decode cX3_climb 57 = .ok (.invokestatic 61, 3) := by decide +kernel
theorem dX3_climb_60 : decode cX3_climb 60 = .ok (.iload_n 3, 1) := by decide +kernel
theorem dX3_climb_61 : decode cX3_climb 61 = .ok (.istore_n 2, 1) := by decide +kernel
theorem dX3_climb_62 : decode cX3_climb 62 = .ok (.iinc 4 1, 3) := by decide +kernel
theorem dX3_climb_65 : decode cX3_climb 65 = .ok (.goto (-45), 3) := by decide +kernel
theorem dX3_climb_68 : decode cX3_climb 68 = .ok (.iinc 3 1, 3) := by decide +kernel
theorem dX3_climb_71 : decode cX3_climb 71 = .ok (.goto (-62), 3) := by decide +kernel
theorem dX3_climb_74 : decode cX3_climb 74 = .ok (.aload_n 0, 1) := by decide +kernel
theorem dX3_climb_75 : decode cX3_climb 75 = .ok (.iload_n 2, 1) := by decide +kernel
theorem dX3_climb_76 : decode cX3_climb 76 = .ok (.putfield 125, 3) := by decide +kernel
theorem dX3_climb_79 : decode cX3_climb 79 = .ok (.iconst 1, 1) := by decide +kernel
theorem dX3_climb_80 : decode cX3_climb 80 = .ok (.aload_n 1, 1) := by decide +kernel
theorem dX3_climb_81 : decode cX3_climb 81 = .ok (.getfield 55, 3) := by decide +kernel
theorem dX3_climb_84 : decode cX3_climb 84 = .ok (.ishl, 1) := by decide +kernel
theorem dX3_climb_85 : decode cX3_climb 85 = .ok (.iconst 1, 1) := by decide +kernel
theorem dX3_climb_86 : decode cX3_climb 86 = .ok (.isub, 1) := by decide +kernel
theorem dX3_climb_87 : decode cX3_climb 87 = .ok (.istore_n 3, 1) := by decide +kernel
theorem dX3_climb_88 : decode cX3_climb 88 = .ok (.iconst 0, 1) := by decide +kernel
theorem dX3_climb_89 : decode cX3_climb 89 = .ok (.istore 4, 2) := by decide +kernel
theorem dX3_climb_91 : decode cX3_climb 91 = .ok (.iload 4, 2) := by decide +kernel
theorem dX3_climb_93 : decode cX3_climb 93 = .ok (.iload_n 2, 1) := by decide +kernel
theorem dX3_climb_94 : decode cX3_climb 94 = .ok (.if_icmp .ge 45, 3) := by decide +kernel
theorem dX3_climb_97 : decode cX3_climb 97 = .ok (.aload_n 0, 1) := by decide +kernel
theorem dX3_climb_98 : decode cX3_climb 98 = .ok (.aload_n 1, 1) := by decide +kernel
theorem dX3_climb_99 : decode cX3_climb 99 = .ok (.getfield 55, 3) := by decide +kernel
theorem dX3_climb_102 : decode cX3_climb 102 = .ok (.iload_n 3, 1) := by decide +kernel
theorem dX3_climb_103 : decode cX3_climb 103 = .ok (.iload_n 2, 1) := by decide +kernel
theorem dX3_climb_104 : decode cX3_climb 104 = .ok (.iload 4, 2) := by decide +kernel
theorem dX3_climb_106 : decode cX3_climb 106 = .ok (.isub, 1) := by decide +kernel
theorem dX3_climb_107 : decode cX3_climb 107 = .ok (.invokevirtual 128, 3) := by decide +kernel
theorem dX3_climb_110 : decode cX3_climb 110 = .ok (.istore 5, 2) := by decide +kernel
theorem dX3_climb_112 : decode cX3_climb 112 = .ok (.aload_n 0, 1) := by decide +kernel
theorem dX3_climb_113 : decode cX3_climb 113 = .ok (.getfield 24, 3) := by decide +kernel
theorem dX3_climb_116 : decode cX3_climb 116 = .ok (.iload 4, 2) := by decide +kernel
theorem dX3_climb_118 : decode cX3_climb 118 = .ok (.iload 5, 2) := by decide +kernel
theorem dX3_climb_120 : decode cX3_climb 120 = .ok (.invokestatic 61, 3) := by decide +kernel
theorem dX3_climb_123 : decode cX3_climb 123 = .ok (.aload_n 0, 1) := by decide +kernel
theorem dX3_climb_124 : decode cX3_climb 124 = .ok (.getfield 18, 3) := by decide +kernel
theorem dX3_climb_127 : decode cX3_climb 127 = .ok (.iload 5, 2) := by decide +kernel
theorem dX3_climb_129 : decode cX3_climb 129 = .ok (.invokestatic 78, 3) := by decide +kernel
theorem dX3_climb_132 : decode cX3_climb 132 = .ok (.istore_n 3, 1) := by decide +kernel
theorem dX3_climb_133 : decode cX3_climb 133 = .ok (.iinc 4 1, 3) := by decide +kernel
theorem dX3_climb_136 : decode cX3_climb 136 = .ok (.goto (-45), 3) := by decide +kernel
theorem dX3_climb_139 : decode cX3_climb 139 = .ok (.return_, 1) := by decide +kernel
theorem dX3_compare_0 : decode cX3_compare 0 = .ok (.iconst 0, 1) := by decide +kernel
theorem dX3_compare_1 : decode cX3_compare 1 = .ok (.istore_n 2, 1) := by decide +kernel
theorem dX3_compare_2 : decode cX3_compare 2 = .ok (.iload_n 2, 1) := by decide +kernel
theorem dX3_compare_3 : decode cX3_compare 3 = .ok (.aload_n 1, 1) := by decide +kernel
theorem dX3_compare_4 : decode cX3_compare 4 = .ok (.getfield 55, 3) := by decide +kernel
theorem dX3_compare_7 : decode cX3_compare 7 = .ok (.if_icmp .ge 65, 3) := by decide +kernel
theorem dX3_compare_10 : decode cX3_compare 10 = .ok (.iconst 0, 1) := by decide +kernel
theorem dX3_compare_11 : decode cX3_compare 11 = .ok (.istore_n 3, 1) := by decide +kernel
theorem dX3_compare_12 : decode cX3_compare 12 = .ok (.iconst 0, 1) := by decide +kernel
theorem dX3_compare_13 : decode cX3_compare 13 = .ok (.istore 4, 2) := by decide +kernel
theorem dX3_compare_15 : decode cX3_compare 15 = .ok (.iload 4, 2) := by decide +kernel
theorem dX3_compare_17 : decode cX3_compare 17 = .ok (.aload_n 1, 1) := by decide +kernel
theorem dX3_compare_18 : decode cX3_compare 18 = .ok (.getfield 55, 3) := by decide +kernel
theorem dX3_compare_21 : decode cX3_compare 21 = .ok (.if_icmp .ge 36, 3) := by decide +kernel
theorem dX3_compare_24 : decode cX3_compare 24 = .ok (.aload_n 1, 1) := by decide +kernel
theorem dX3_compare_25 : decode cX3_compare 25 = .ok (.iload 4, 2) := by decide +kernel
theorem dX3_compare_27 : decode cX3_compare 27 = .ok (.iload_n 2, 1) := by decide +kernel
theorem dX3_compare_28 : decode cX3_compare 28 = .ok (.invokestatic 113, 3) := by decide +kernel
theorem dX3_compare_31 : decode cX3_compare 31 = .ok (.ifCond .eq 20, 3) := by decide +kernel
theorem dX3_compare_34 : decode cX3_compare 34 = .ok (.aload_n 1, 1) := by decide +kernel
theorem dX3_compare_35 : decode cX3_compare 35 = .ok (.iload_n 2, 1) := by decide +kernel
theorem dX3_compare_36 : decode cX3_compare 36 = .ok (.iload 4, 2) := by decide +kernel
theorem dX3_compare_38 : decode cX3_compare 38 = .ok (.invokestatic 113, 3) := by decide +kernel
theorem dX3_compare_41 : decode cX3_compare 41 = .ok (.ifCond .ne 10, 3) := by decide +kernel
theorem dX3_compare_44 : decode cX3_compare 44 = .ok (.iload_n 3, 1) := by decide +kernel
theorem dX3_compare_45 : decode cX3_compare 45 = .ok (.iconst 1, 1) := by decide +kernel
theorem dX3_compare_46 : decode cX3_compare 46 = .ok (.iload 4, 2) := by decide +kernel
theorem dX3_compare_48 : decode cX3_compare 48 = .ok (.ishl, 1) := by decide +kernel
theorem dX3_compare_49 : decode cX3_compare 49 = .ok (.ior, 1) := by decide +kernel
theorem dX3_compare_50 : decode cX3_compare 50 = .ok (.istore_n 3, 1) := by decide +kernel
theorem dX3_compare_51 : decode cX3_compare 51 = .ok (.iinc 4 1, 3) := by decide +kernel
theorem dX3_compare_54 : decode cX3_compare 54 = .ok (.goto (-39), 3) := by decide +kernel
theorem dX3_compare_57 : decode cX3_compare 57 = .ok (.aload_n 0, 1) := by decide +kernel
theorem dX3_compare_58 : decode cX3_compare 58 = .ok (.getfield 18, 3) := by decide +kernel
theorem dX3_compare_61 : decode cX3_compare 61 = .ok (.iload_n 2, 1) := by decide +kernel
theorem dX3_compare_62 : decode cX3_compare 62 = .ok (.iload_n 3, 1) := by decide +kernel
theorem dX3_compare_63 : decode cX3_compare 63 = .ok (.invokestatic 61, 3) := by decide +kernel
theorem dX3_compare_66 : decode cX3_compare 66 = .ok (.iinc 2 1, 3) := by decide +kernel
theorem dX3_compare_69 : decode cX3_compare 69 = .ok (.goto (-67), 3) := by decide +kernel
theorem dX3_compare_72 : decode cX3_compare 72 = .ok (.return_, 1) := by decide +kernel
theorem dX3_hasAbove_0 : decode cX3_hasAbove 0 = .ok (.aload_n 0, 1) := by decide +kernel
theorem dX3_hasAbove_1 : decode cX3_hasAbove 1 = .ok (.iload_n 1, 1) := by decide +kernel
theorem dX3_hasAbove_2 : decode cX3_hasAbove 2 = .ok (.aload_n 0, 1) := by decide +kernel
theorem dX3_hasAbove_3 : decode cX3_hasAbove 3 = .ok (.getfield 18, 3) := by decide +kernel
theorem dX3_hasAbove_6 : decode cX3_hasAbove 6 = .ok (.iload_n 2, 1) := by decide +kernel
theorem dX3_hasAbove_7 : decode cX3_hasAbove 7 = .ok (.invokestatic 78, 3) := by decide +kernel
theorem dX3_hasAbove_10 : decode cX3_hasAbove 10 = .ok (.iload_n 3, 1) := by decide +kernel
theorem dX3_hasAbove_11 : decode cX3_hasAbove 11 = .ok (.invokevirtual 128, 3) := by decide +kernel
theorem dX3_hasAbove_14 : decode cX3_hasAbove 14 = .ok (.ifCond .lt 7, 3) := by decide +kernel
theorem dX3_hasAbove_17 : decode cX3_hasAbove 17 = .ok (.iconst 1, 1) := by decide +kernel
theorem dX3_hasAbove_18 : decode cX3_hasAbove 18 = .ok (.goto 4, 3) := by decide +kernel
theorem dX3_hasAbove_21 : decode cX3_hasAbove 21 = .ok (.iconst 0, 1) := by decide +kernel
theorem dX3_hasAbove_22 : decode cX3_hasAbove 22 = .ok (.ireturn, 1) := by decide +kernel
theorem dX3_firstOfHeight_0 : decode cX3_firstOfHeight 0 = .ok (.iconst 0, 1) := by decide +kernel
theorem dX3_firstOfHeight_1 : decode cX3_firstOfHeight 1 = .ok (.istore 4, 2) := by decide +kernel
theorem dX3_firstOfHeight_3 : decode cX3_firstOfHeight 3 = .ok (.iload 4, 2) := by decide +kernel
theorem dX3_firstOfHeight_5 : decode cX3_firstOfHeight 5 = .ok (.iload_n 1, 1) := by decide +kernel
theorem dX3_firstOfHeight_6 : decode cX3_firstOfHeight 6 = .ok (.if_icmp .ge 34, 3) := by decide +kernel
theorem dX3_firstOfHeight_9 : decode cX3_firstOfHeight 9 = .ok (.iload_n 2, 1) := by decide +kernel
theorem dX3_firstOfHeight_10 : decode cX3_firstOfHeight 10 = .ok (.iload 4, 2) := by decide +kernel
theorem dX3_firstOfHeight_12 : decode cX3_firstOfHeight 12 = .ok (.ishr, 1) := by decide +kernel
theorem dX3_firstOfHeight_13 : decode cX3_firstOfHeight 13 = .ok (.iconst 1, 1) := by decide +kernel
theorem dX3_firstOfHeight_14 : decode cX3_firstOfHeight 14 = .ok (.iand, 1) := by decide +kernel
theorem dX3_firstOfHeight_15 : decode cX3_firstOfHeight 15 = .ok (.ifCond .eq 19, 3) := by decide +kernel
theorem dX3_firstOfHeight_18 : decode cX3_firstOfHeight 18 = .ok (.aload_n 0, 1) := by decide +kernel
theorem dX3_firstOfHeight_19 : decode cX3_firstOfHeight 19 = .ok (.getfield 21, 3) := by decide +kernel
theorem dX3_firstOfHeight_22 : decode cX3_firstOfHeight 22 = .ok (.iload 4, 2) := by decide +kernel
theorem dX3_firstOfHeight_24 : decode cX3_firstOfHeight 24 = .ok (.invokestatic 78, 3) := by decide +kernel
theorem dX3_firstOfHeight_27 : decode cX3_firstOfHeight 27 = .ok (.iload_n 3, 1) := by decide +kernel
theorem dX3_firstOfHeight_28 : decode cX3_firstOfHeight 28 = .ok (.if_icmp .lt 6, 3) := by decide +kernel
theorem dX3_firstOfHeight_31 : decode cX3_firstOfHeight 31 = .ok (.iload 4, 2) := by decide +kernel
theorem dX3_firstOfHeight_33 : decode cX3_firstOfHeight 33 = .ok (.ireturn, 1) := by decide +kernel
theorem dX3_firstOfHeight_34 : decode cX3_firstOfHeight 34 = .ok (.iinc 4 1, 3) := by decide +kernel
theorem dX3_firstOfHeight_37 : decode cX3_firstOfHeight 37 = .ok (.goto (-34), 3) := by decide +kernel
theorem dX3_firstOfHeight_40 : decode cX3_firstOfHeight 40 = .ok (.iconst (-1), 1) := by decide +kernel
theorem dX3_firstOfHeight_41 : decode cX3_firstOfHeight 41 = .ok (.ireturn, 1) := by decide +kernel
theorem dX3_rungAt_0 : decode cX3_rungAt 0 = .ok (.iload_n 1, 1) := by decide +kernel
theorem dX3_rungAt_1 : decode cX3_rungAt 1 = .ok (.ifCond .lt 22, 3) := by decide +kernel
theorem dX3_rungAt_4 : decode cX3_rungAt 4 = .ok (.iload_n 1, 1) := by decide +kernel
theorem dX3_rungAt_5 : decode cX3_rungAt 5 = .ok (.aload_n 0, 1) := by decide +kernel
theorem dX3_rungAt_6 : decode cX3_rungAt 6 = .ok (.getfield 125, 3) := by decide +kernel
theorem dX3_rungAt_9 : decode cX3_rungAt 9 = .ok (.if_icmp .ge 14, 3) := by decide +kernel
theorem dX3_rungAt_12 : decode cX3_rungAt 12 = .ok (.aload_n 0, 1) := by decide +kernel
theorem dX3_rungAt_13 : decode cX3_rungAt 13 = .ok (.getfield 24, 3) := by decide +kernel
theorem dX3_rungAt_16 : decode cX3_rungAt 16 = .ok (.iload_n 1, 1) := by decide +kernel
theorem dX3_rungAt_17 : decode cX3_rungAt 17 = .ok (.invokestatic 78, 3) := by decide +kernel
theorem dX3_rungAt_20 : decode cX3_rungAt 20 = .ok (.goto 4, 3) := by decide +kernel
theorem dX3_rungAt_23 : decode cX3_rungAt 23 = .ok (.iconst (-1), 1) := by decide +kernel
theorem dX3_rungAt_24 : decode cX3_rungAt 24 = .ok (.ireturn, 1) := by decide +kernel
theorem dX7_init_0 : decode cX7_init 0 = .ok (.aload_n 0, 1) := by decide +kernel
theorem dX7_init_1 : decode cX7_init 1 = .ok (.invokespecial 3, 3) := by decide +kernel
theorem dX7_init_4 : decode cX7_init 4 = .ok (.aload_n 0, 1) := by decide +kernel
theorem dX7_init_5 : decode cX7_init 5 = .ok (.new 9, 3) := by decide +kernel
theorem dX7_init_8 : decode cX7_init 8 = .ok (.dup, 1) := by decide +kernel
theorem dX7_init_9 : decode cX7_init 9 = .ok (.invokespecial 11, 3) := by decide +kernel
theorem dX7_init_12 : decode cX7_init 12 = .ok (.putfield 12, 3) := by decide +kernel
theorem dX7_init_15 : decode cX7_init 15 = .ok (.aload_n 0, 1) := by decide +kernel
theorem dX7_init_16 : decode cX7_init 16 = .ok (.iconst 4, 1) := by decide +kernel
theorem dX7_init_17 : decode cX7_init 17 = .ok (.newarray .int, 2) := by decide +kernel
theorem dX7_init_19 : decode cX7_init 19 = .ok (.putfield 18, 3) := by decide +kernel
theorem dX7_init_22 : decode cX7_init 22 = .ok (.return_, 1) := by decide +kernel
theorem dX7_run_0 : decode cX7_run 0 = .ok (.aload_n 0, 1) := by decide +kernel
theorem dX7_run_1 : decode cX7_run 1 = .ok (.aload_n 1, 1) := by decide +kernel
theorem dX7_run_2 : decode cX7_run 2 = .ok (.invokevirtual 22, 3) := by decide +kernel
theorem dX7_run_5 : decode cX7_run 5 = .ok (.iconst 0, 1) := by decide +kernel
theorem dX7_run_6 : decode cX7_run 6 = .ok (.istore 4, 2) := by decide +kernel
theorem dX7_run_8 : decode cX7_run 8 = .ok (.iload 4, 2) := by decide +kernel
theorem dX7_run_10 : decode cX7_run 10 = .ok (.iload_n 3, 1) := by decide +kernel
theorem dX7_run_11 : decode cX7_run 11 = .ok (.if_icmp .ge 47, 3) := by decide +kernel
theorem dX7_run_14 : decode cX7_run 14 = .ok (.aload_n 0, 1) := by decide +kernel
theorem dX7_run_15 : decode cX7_run 15 = .ok (.aload_n 2, 1) := by decide +kernel
theorem dX7_run_16 : decode cX7_run 16 = .ok (.iload 4, 2) := by decide +kernel
theorem dX7_run_18 : decode cX7_run 18 = .ok (.iconst 0, 1) := by decide +kernel
theorem dX7_run_19 : decode cX7_run 19 = .ok (.invokevirtual 26, 3) := by decide +kernel
theorem dX7_run_22 : decode cX7_run 22 = .ok (.aload_n 2, 1) := by decide +kernel
theorem dX7_run_23 : decode cX7_run 23 = .ok (.iload 4, 2) := by decide +kernel
theorem dX7_run_25 : decode cX7_run 25 = .ok (.iconst 1, 1) := by decide +kernel
theorem dX7_run_26 : decode cX7_run 26 = .ok (.invokevirtual 26, 3) := by decide +kernel
theorem dX7_run_29 : decode cX7_run 29 = .ok (.aload_n 2, 1) := by decide +kernel
theorem dX7_run_30 : decode cX7_run 30 = .ok (.iload 4, 2) := by decide +kernel
theorem dX7_run_32 : decode cX7_run 32 = .ok (.iconst 2, 1) := by decide +kernel
theorem dX7_run_33 : decode cX7_run 33 = .ok (.invokevirtual 26, 3) := by decide +kernel
theorem dX7_run_36 : decode cX7_run 36 = .ok (.aload_n 2, 1) := by decide +kernel
theorem dX7_run_37 : decode cX7_run 37 = .ok (.iload 4, 2) := by decide +kernel
theorem dX7_run_39 : decode cX7_run 39 = .ok (.iconst 3, 1) := by decide +kernel
theorem dX7_run_40 : decode cX7_run 40 = .ok (.invokevirtual 26, 3) := by decide +kernel
theorem dX7_run_43 : decode cX7_run 43 = .ok (.invokevirtual 32, 3) := by decide +kernel
theorem dX7_run_46 : decode cX7_run 46 = .ok (.ifCond .ne 6, 3) := by decide +kernel
theorem dX7_run_49 : decode cX7_run 49 = .ok (.iload 4, 2) := by decide +kernel
theorem dX7_run_51 : decode cX7_run 51 = .ok (.ireturn, 1) := by decide +kernel
theorem dX7_run_52 : decode cX7_run 52 = .ok (.iinc 4 1, 3) := by decide +kernel
theorem dX7_run_55 : decode cX7_run 55 = .ok (.goto (-47), 3) := by decide +kernel
theorem dX7_run_58 : decode cX7_run 58 = .ok (.iload_n 3, 1) := by decide +kernel
theorem dX7_run_59 : decode cX7_run 59 = .ok (.ireturn, 1) := by decide +kernel
theorem dX7_runByLot_0 : decode cX7_runByLot 0 = .ok (.aload_n 0, 1) := by decide +kernel
theorem dX7_runByLot_1 : decode cX7_runByLot 1 = .ok (.aload_n 1, 1) := by decide +kernel
theorem dX7_runByLot_2 : decode cX7_runByLot 2 = .ok (.invokevirtual 22, 3) := by decide +kernel
theorem dX7_runByLot_5 : decode cX7_runByLot 5 = .ok (.aload_n 0, 1) := by decide +kernel
theorem dX7_runByLot_6 : decode cX7_runByLot 6 = .ok (.iload_n 2, 1) := by decide +kernel
theorem dX7_runByLot_7 : decode cX7_runByLot 7 = .ok (.putfield 36, 3) := by decide +kernel
theorem dX7_runByLot_10 : decode cX7_runByLot 10 = .ok (.iconst 0, 1) := by decide +kernel
theorem dX7_runByLot_11 : decode cX7_runByLot 11 = .ok (.istore 4, 2) := by decide +kernel
theorem dX7_runByLot_13 : decode cX7_runByLot 13 = .ok (.iload 4, 2) := by decide +kernel
theorem dX7_runByLot_15 : decode cX7_runByLot 15 = .ok (.iload_n 3, 1) := by decide +kernel
theorem dX7_runByLot_16 : decode cX7_runByLot 16 = .ok (.if_icmp .ge 45, 3) := by decide +kernel
theorem dX7_runByLot_19 : decode cX7_runByLot 19 = .ok (.aload_n 0, 1) := by decide +kernel
theorem dX7_runByLot_20 : decode cX7_runByLot 20 = .ok (.invokevirtual 40, 3) := by decide +kernel
theorem dX7_runByLot_23 : decode cX7_runByLot 23 = .ok (.ifCond .eq 32, 3) := by decide +kernel
theorem dX7_runByLot_26 : decode cX7_runByLot 26 = .ok (.aload_n 0, 1) := by decide +kernel
theorem dX7_runByLot_27 : decode cX7_runByLot 27 = .ok (.aload_n 0, 1) := by decide +kernel
theorem dX7_runByLot_28 : decode cX7_runByLot 28 = .ok (.getfield 18, 3) := by decide +kernel
theorem dX7_runByLot_31 : decode cX7_runByLot 31 = .ok (.iconst 0, 1) := by decide +kernel
theorem dX7_runByLot_32 : decode cX7_runByLot 32 = .ok (.iaload, 1) := by decide +kernel
theorem dX7_runByLot_33 : decode cX7_runByLot 33 = .ok (.aload_n 0, 1) := by decide +kernel
theorem dX7_runByLot_34 : decode cX7_runByLot 34 = .ok (.getfield 18, 3) := by decide +kernel
theorem dX7_runByLot_37 : decode cX7_runByLot 37 = .ok (.iconst 1, 1) := by decide +kernel
theorem dX7_runByLot_38 : decode cX7_runByLot 38 = .ok (.iaload, 1) := by decide +kernel
theorem dX7_runByLot_39 : decode cX7_runByLot 39 = .ok (.aload_n 0, 1) := by decide +kernel
theorem dX7_runByLot_40 : decode cX7_runByLot 40 = .ok (.getfield 18, 3) := by decide +kernel
theorem dX7_runByLot_43 : decode cX7_runByLot 43 = .ok (.iconst 2, 1) := by decide +kernel
theorem dX7_runByLot_44 : decode cX7_runByLot 44 = .ok (.iaload, 1) := by decide +kernel
theorem dX7_runByLot_45 : decode cX7_runByLot 45 = .ok (.aload_n 0, 1) := by decide +kernel
theorem dX7_runByLot_46 : decode cX7_runByLot 46 = .ok (.getfield 18, 3) := by decide +kernel
theorem dX7_runByLot_49 : decode cX7_runByLot 49 = .ok (.iconst 3, 1) := by decide +kernel
theorem dX7_runByLot_50 : decode cX7_runByLot 50 = .ok (.iaload, 1) := by decide +kernel
theorem dX7_runByLot_51 : decode cX7_runByLot 51 = .ok (.invokevirtual 32, 3) := by decide +kernel
theorem dX7_runByLot_54 : decode cX7_runByLot 54 = .ok (.pop, 1) := by decide +kernel
theorem dX7_runByLot_55 : decode cX7_runByLot 55 = .ok (.iinc 4 1, 3) := by decide +kernel
theorem dX7_runByLot_58 : decode cX7_runByLot 58 = .ok (.goto (-45), 3) := by decide +kernel
theorem dX7_runByLot_61 : decode cX7_runByLot 61 = .ok (.return_, 1) := by decide +kernel
theorem dX7_begin_0 : decode cX7_begin 0 = .ok (.aload_n 0, 1) := by decide +kernel
theorem dX7_begin_1 : decode cX7_begin 1 = .ok (.getfield 12, 3) := by decide +kernel
theorem dX7_begin_4 : decode cX7_begin 4 = .ok (.aload_n 1, 1) := by decide +kernel
theorem dX7_begin_5 : decode cX7_begin 5 = .ok (.invokevirtual 44, 3) := by decide +kernel
theorem dX7_begin_8 : decode cX7_begin 8 = .ok (.aload_n 0, 1) := by decide +kernel
theorem dX7_begin_9 : decode cX7_begin 9 = .ok (.iconst 0, 1) := by decide +kernel
theorem dX7_begin_10 : decode cX7_begin 10 = .ok (.putfield 47, 3) := by decide +kernel
theorem dX7_begin_13 : decode cX7_begin 13 = .ok (.aload_n 0, 1) := by decide +kernel
theorem dX7_begin_14 : decode cX7_begin 14 = .ok (.iconst 0, 1) := by decide +kernel
theorem dX7_begin_15 : decode cX7_begin 15 = .ok (.putfield 50, 3) := by decide +kernel
theorem dX7_begin_18 : decode cX7_begin 18 = .ok (.aload_n 0, 1) := by decide +kernel
theorem dX7_begin_19 : decode cX7_begin 19 = .ok (.iconst (-1), 1) := by decide +kernel
theorem dX7_begin_20 : decode cX7_begin 20 = .ok (.putfield 53, 3) := by decide +kernel
theorem dX7_begin_23 : decode cX7_begin 23 = .ok (.aload_n 0, 1) := by decide +kernel
theorem dX7_begin_24 : decode cX7_begin 24 = .ok (.iconst (-1), 1) := by decide +kernel
theorem dX7_begin_25 : decode cX7_begin 25 = .ok (.putfield 56, 3) := by decide +kernel
theorem dX7_begin_28 : decode cX7_begin 28 = .ok (.aload_n 0, 1) := by decide +kernel
theorem dX7_begin_29 : decode cX7_begin 29 = .ok (.iconst 0, 1) := by decide +kernel
theorem dX7_begin_30 : decode cX7_begin 30 = .ok (.putfield 59, 3) := by decide +kernel
theorem dX7_begin_33 : decode cX7_begin 33 = .ok (.aload_n 0, 1) := by decide +kernel
theorem dX7_begin_34 : decode cX7_begin 34 = .ok (.iconst 0, 1) := by decide +kernel
theorem dX7_begin_35 : decode cX7_begin 35 = .ok (.putfield 62, 3) := by decide +kernel
theorem dX7_begin_38 : decode cX7_begin 38 = .ok (.aload_n 0, 1) := by decide +kernel
theorem dX7_begin_39 : decode cX7_begin 39 = .ok (.iconst 0, 1) := by decide +kernel
theorem dX7_begin_40 : decode cX7_begin 40 = .ok (.putfield 65, 3) := by decide +kernel
theorem dX7_begin_43 : decode cX7_begin 43 = .ok (.aload_n 0, 1) := by decide +kernel
theorem dX7_begin_44 : decode cX7_begin 44 = .ok (.iconst 0, 1) := by decide +kernel
theorem dX7_begin_45 : decode cX7_begin 45 = .ok (.putfield 68, 3) := by decide +kernel
theorem dX7_begin_48 : decode cX7_begin 48 = .ok (.aload_n 0, 1) := by decide +kernel
theorem dX7_begin_49 : decode cX7_begin 49 = .ok (.iconst 0, 1) := by decide +kernel
theorem dX7_begin_50 : decode cX7_begin 50 = .ok (.putfield 71, 3) := by decide +kernel
theorem dX7_begin_53 : decode cX7_begin 53 = .ok (.aload_n 0, 1) := by decide +kernel
theorem dX7_begin_54 : decode cX7_begin 54 = .ok (.iconst 0, 1) := by decide +kernel
theorem dX7_begin_55 : decode cX7_begin 55 = .ok (.putfield 74, 3) := by decide +kernel
theorem dX7_begin_58 : decode cX7_begin 58 = .ok (.aload_n 0, 1) := by decide +kernel
theorem dX7_begin_59 : decode cX7_begin 59 = .ok (.iconst 0, 1) := by decide +kernel
theorem dX7_begin_60 : decode cX7_begin 60 = .ok (.putfield 77, 3) := by decide +kernel
theorem dX7_begin_63 : decode cX7_begin 63 = .ok (.aload_n 0, 1) := by decide +kernel
theorem dX7_begin_64 : decode cX7_begin 64 = .ok (.iconst 0, 1) := by decide +kernel
theorem dX7_begin_65 : decode cX7_begin 65 = .ok (.putfield 80, 3) := by decide +kernel
theorem dX7_begin_68 : decode cX7_begin 68 = .ok (.return_, 1) := by decide +kernel
theorem dX7_drawBelow_0 : decode cX7_drawBelow 0 = .ok (.aload_n 0, 1) := by decide +kernel
theorem dX7_drawBelow_1 : decode cX7_drawBelow 1 = .ok (.aload_n 0, 1) := by decide +kernel
theorem dX7_drawBelow_2 : decode cX7_drawBelow 2 = .ok (.getfield 36, 3) := by decide +kernel
theorem dX7_drawBelow_5 : decode cX7_drawBelow 5 = .ok (.ldc 83, 2) := by decide +kernel
theorem dX7_drawBelow_7 : decode cX7_drawBelow 7 = .ok (.imul, 1) := by decide +kernel
theorem dX7_drawBelow_8 : decode cX7_drawBelow 8 = .ok (.sipush 12345, 3) := by decide +kernel
theorem dX7_drawBelow_11 : decode cX7_drawBelow 11 = .ok (.iadd, 1) := by decide +kernel
theorem dX7_drawBelow_12 : decode cX7_drawBelow 12 = .ok (.putfield 36, 3) := by decide +kernel
theorem dX7_drawBelow_15 : decode cX7_drawBelow 15 = .ok (.iload_n 1, 1) := by decide +kernel
theorem dX7_drawBelow_16 : decode cX7_drawBelow 16 = .ok (.ifCond .le 15, 3) := by decide +kernel
theorem dX7_drawBelow_19 : decode cX7_drawBelow 19 = .ok (.aload_n 0, 1) := by decide +kernel
theorem dX7_drawBelow_20 : decode cX7_drawBelow 20 = .ok (.getfield 36, 3) := by decide +kernel
theorem dX7_drawBelow_23 : decode cX7_drawBelow 23 = .ok (.bipush 16, 2) := by decide +kernel
theorem dX7_drawBelow_25 : decode cX7_drawBelow 25 = .ok (.iushr, 1) := by decide +kernel
theorem dX7_drawBelow_26 : decode cX7_drawBelow 26 = .ok (.iload_n 1, 1) := by decide +kernel
theorem dX7_drawBelow_27 : decode cX7_drawBelow 27 = .ok (.irem, 1) := by decide +kernel
theorem dX7_drawBelow_28 : decode cX7_drawBelow 28 = .ok (.goto 4, 3) := by decide +kernel
theorem dX7_drawBelow_31 : decode cX7_drawBelow 31 = .ok (.iconst 0, 1) := by decide +kernel
theorem dX7_drawBelow_32 : decode cX7_drawBelow 32 = .ok (.ireturn, 1) := by decide +kernel
theorem dX7_drawDeed_0 : decode cX7_drawDeed 0 = .ok (.getstatic 84, 3) := by decide +kernel
theorem dX7_drawDeed_3 : decode cX7_drawDeed 3 = .ok (.aload_n 0, 1) := by decide +kernel
theorem dX7_drawDeed_4 : decode cX7_drawDeed 4 = .ok (.getstatic 84, 3) := by decide +kernel
theorem dX7_drawDeed_7 : decode cX7_drawDeed 7 = .ok (.arraylength, 1) := by decide +kernel
theorem dX7_drawDeed_8 : decode cX7_drawDeed 8 = .ok (.invokevirtual 87, 3) := by decide +kernel
theorem dX7_drawDeed_11 : decode cX7_drawDeed 11 = .ok (.invokestatic 91, 3) := by decide +kernel
theorem dX7_drawDeed_14 : decode cX7_drawDeed 14 = .ok (.istore_n 1, 1) := by decide +kernel
theorem dX7_drawDeed_15 : decode cX7_drawDeed 15 = .ok (.aload_n 0, 1) := by decide +kernel
theorem dX7_drawDeed_16 : decode cX7_drawDeed 16 = .ok (.getfield 18, 3) := by decide +kernel
theorem dX7_drawDeed_19 : decode cX7_drawDeed 19 = .ok (.iconst 0, 1) := by decide +kernel
theorem dX7_drawDeed_20 : decode cX7_drawDeed 20 = .ok (.iload_n 1, 1) := by decide +kernel
theorem dX7_drawDeed_21 : decode cX7_drawDeed 21 = .ok (.iastore, 1) := by decide +kernel
theorem dX7_drawDeed_22 : decode cX7_drawDeed 22 = .ok (.iload_n 1, 1) := by decide +kernel
theorem dX7_drawDeed_23 : decode cX7_drawDeed 23 = .ok (.ifCond .eq 8, 3) := by decide +kernel
theorem dX7_drawDeed_26 : decode cX7_drawDeed 26 = .ok (.iload_n 1, 1) := by decide +kernel
theorem dX7_drawDeed_27 : decode cX7_drawDeed 27 = .ok (.iconst 1, 1) := by decide +kernel
theorem dX7_drawDeed_28 : decode cX7_drawDeed 28 = .ok (.if_icmp .ne 5, 3) := by decide +kernel
theorem dX7_drawDeed_31 : decode cX7_drawDeed 31 = .ok (.iconst 1, 1) := by decide +kernel
theorem dX7_drawDeed_32 : decode cX7_drawDeed 32 = .ok (.ireturn, 1) := by decide +kernel
theorem dX7_drawDeed_33 : decode cX7_drawDeed 33 = .ok (.aload_n 0, 1) := by decide +kernel
theorem dX7_drawDeed_34 : decode cX7_drawDeed 34 = .ok (.getfield 12, 3) := by decide +kernel
theorem dX7_drawDeed_37 : decode cX7_drawDeed 37 = .ok (.getfield 97, 3) := by decide +kernel
theorem dX7_drawDeed_40 : decode cX7_drawDeed 40 = .ok (.ifCond .ne 5, 3) := by decide +kernel
theorem dX7_drawDeed_43 : decode cX7_drawDeed 43 = .ok (.iconst 0, 1) := by decide +kernel
theorem dX7_drawDeed_44 : decode cX7_drawDeed 44 = .ok (.ireturn, 1) := by decide +kernel
theorem dX7_drawDeed_45 : decode cX7_drawDeed 45 = .ok (.aload_n 0, 1) := by decide +kernel
theorem dX7_drawDeed_46 : decode cX7_drawDeed 46 = .ok (.getfield 18, 3) := by decide +kernel
theorem dX7_drawDeed_49 : decode cX7_drawDeed 49 = .ok (.iconst 1, 1) := by decide +kernel
theorem dX7_drawDeed_50 : decode cX7_drawDeed 50 = .ok (.aload_n 0, 1) := by decide +kernel
theorem dX7_drawDeed_51 : decode cX7_drawDeed 51 = .ok (.aload_n 0, 1) := by decide +kernel
theorem dX7_drawDeed_52 : decode cX7_drawDeed 52 = .ok (.getfield 12, 3) := by decide +kernel
theorem dX7_drawDeed_55 : decode cX7_drawDeed 55 = .ok (.getfield 97, 3) := by decide +kernel
theorem dX7_drawDeed_58 : decode cX7_drawDeed 58 = .ok (.invokevirtual 87, 3) := by decide +kernel
theorem dX7_drawDeed_61 : decode cX7_drawDeed 61 = .ok (.iastore, 1) := by decide +kernel
theorem dX7_drawDeed_62 : decode cX7_drawDeed 62 = .ok (.iload_n 1, 1) := by decide +kernel
theorem dX7_drawDeed_63 : decode cX7_drawDeed 63 = .ok (.iconst 3, 1) := by decide +kernel
theorem dX7_drawDeed_64 : decode cX7_drawDeed 64 = .ok (.if_icmp .ne 30, 3) := by decide +kernel
theorem dX7_drawDeed_67 : decode cX7_drawDeed 67 = .ok (.aload_n 0, 1) := by decide +kernel
theorem dX7_drawDeed_68 : decode cX7_drawDeed 68 = .ok (.getfield 18, 3) := by decide +kernel
theorem dX7_drawDeed_71 : decode cX7_drawDeed 71 = .ok (.iconst 2, 1) := by decide +kernel
theorem dX7_drawDeed_72 : decode cX7_drawDeed 72 = .ok (.aload_n 0, 1) := by decide +kernel
theorem dX7_drawDeed_73 : decode cX7_drawDeed 73 = .ok (.bipush 10, 2) := by decide +kernel
theorem dX7_drawDeed_75 : decode cX7_drawDeed 75 = .ok (.invokevirtual 87, 3) := by decide +kernel
theorem dX7_drawDeed_78 : decode cX7_drawDeed 78 = .ok (.iastore, 1) := by decide +kernel
theorem dX7_drawDeed_79 : decode cX7_drawDeed 79 = .ok (.aload_n 0, 1) := by decide +kernel
theorem dX7_drawDeed_80 : decode cX7_drawDeed 80 = .ok (.getfield 18, 3) := by decide +kernel
theorem dX7_drawDeed_83 : decode cX7_drawDeed 83 = .ok (.iconst 3, 1) := by decide +kernel
theorem dX7_drawDeed_84 : decode cX7_drawDeed 84 = .ok (.aload_n 0, 1) := by decide +kernel
theorem dX7_drawDeed_85 : decode cX7_drawDeed 85 = .ok (.bipush 10, 2) := by decide +kernel
theorem dX7_drawDeed_87 : decode cX7_drawDeed 87 = .ok (.invokevirtual 87, 3) := by decide +kernel
theorem dX7_drawDeed_90 : decode cX7_drawDeed 90 = .ok (.iastore, 1) := by decide +kernel
theorem dX7_drawDeed_91 : decode cX7_drawDeed 91 = .ok (.goto 33, 3) := by decide +kernel
theorem dX7_drawDeed_94 : decode cX7_drawDeed 94 = .ok (.iload_n 1, 1) := by decide +kernel
theorem dX7_drawDeed_95 : decode cX7_drawDeed 95 = .ok (.iconst 2, 1) := by decide +kernel
theorem dX7_drawDeed_96 : decode cX7_drawDeed 96 = .ok (.if_icmp .eq 28, 3) := by decide +kernel
theorem dX7_drawDeed_99 : decode cX7_drawDeed 99 = .ok (.aload_n 0, 1) := by decide +kernel
theorem dX7_drawDeed_100 : decode cX7_drawDeed 100 = .ok (.getfield 18, 3) := by decide +kernel
theorem dX7_drawDeed_103 : decode cX7_drawDeed 103 = .ok (.iconst 2, 1) := by decide +kernel
theorem dX7_drawDeed_104 : decode cX7_drawDeed 104 = .ok (.aload_n 0, 1) := by decide +kernel
theorem dX7_drawDeed_105 : decode cX7_drawDeed 105 = .ok (.bipush 6, 2) := by decide +kernel
theorem dX7_drawDeed_107 : decode cX7_drawDeed 107 = .ok (.invokevirtual 87, 3) := by decide +kernel
theorem dX7_drawDeed_110 : decode cX7_drawDeed 110 = .ok (.iastore, 1) := by decide +kernel
theorem dX7_drawDeed_111 : decode cX7_drawDeed 111 = .ok (.aload_n 0, 1) := by decide +kernel
theorem dX7_drawDeed_112 : decode cX7_drawDeed 112 = .ok (.getfield 18, 3) := by decide +kernel
theorem dX7_drawDeed_115 : decode cX7_drawDeed 115 = .ok (.iconst 3, 1) := by decide +kernel
theorem dX7_drawDeed_116 : decode cX7_drawDeed 116 = .ok (.iconst 1, 1) := by decide +kernel
theorem dX7_drawDeed_117 : decode cX7_drawDeed 117 = .ok (.aload_n 0, 1) := by decide +kernel
theorem dX7_drawDeed_118 : decode cX7_drawDeed 118 = .ok (.iconst 3, 1) := by decide +kernel
theorem dX7_drawDeed_119 : decode cX7_drawDeed 119 = .ok (.invokevirtual 87, 3) := by decide +kernel
theorem dX7_drawDeed_122 : decode cX7_drawDeed 122 = .ok (.iadd, 1) := by decide +kernel
theorem dX7_drawDeed_123 : decode cX7_drawDeed 123 = .ok (.iastore, 1) := by decide +kernel
theorem dX7_drawDeed_124 : decode cX7_drawDeed 124 = .ok (.iconst 1, 1) := by decide +kernel
theorem dX7_drawDeed_125 : decode cX7_drawDeed 125 = .ok (.ireturn, 1) := by decide +kernel
theorem dX7_act_0 : decode cX7_act 0 = .ok (.iload_n 1, 1) := by decide +kernel
theorem dX7_act_1 : decode cX7_act 1 = .ok (.ifCond .ne 8, 3) := by decide +kernel
theorem dX7_act_4 : decode cX7_act 4 = .ok (.aload_n 0, 1) := by decide +kernel
theorem dX7_act_5 : decode cX7_act 5 = .ok (.invokevirtual 100, 3) := by decide +kernel
theorem dX7_act_8 : decode cX7_act 8 = .ok (.ireturn, 1) := by decide +kernel
theorem dX7_act_9 : decode cX7_act 9 = .ok (.iload_n 1, 1) := by decide +kernel
theorem dX7_act_10 : decode cX7_act 10 = .ok (.iconst 1, 1) := by decide +kernel
theorem dX7_act_11 : decode cX7_act 11 = .ok (.if_icmp .ne 8, 3) := by decide +kernel
theorem dX7_act_14 : decode cX7_act 14 = .ok (.aload_n 0, 1) := by decide +kernel
theorem dX7_act_15 : decode cX7_act 15 = .ok (.invokevirtual 103, 3) := by decide +kernel
theorem dX7_act_18 : decode cX7_act 18 = .ok (.ireturn, 1) := by decide +kernel
theorem dX7_act_19 : decode cX7_act 19 = .ok (.aload_n 0, 1) := by decide +kernel
theorem dX7_act_20 : decode cX7_act 20 = .ok (.getfield 12, 3) := by decide +kernel
theorem dX7_act_23 : decode cX7_act 23 = .ok (.iload_n 2, 1) := by decide +kernel
theorem dX7_act_24 : decode cX7_act 24 = .ok (.invokevirtual 106, 3) := by decide +kernel
theorem dX7_act_27 : decode cX7_act 27 = .ok (.ifCond .ne 5, 3) := by decide +kernel
theorem dX7_act_30 : decode cX7_act 30 = .ok (.iconst 0, 1) := by decide +kernel
theorem dX7_act_31 : decode cX7_act 31 = .ok (.ireturn, 1) := by decide +kernel
theorem dX7_act_32 : decode cX7_act 32 = .ok (.iload_n 1, 1) := by decide +kernel
theorem dX7_act_33 : decode cX7_act 33 = .ok (.tableswitch 51 2 4 #[27, 33, 42], 27) := by decide +kernel
theorem dX7_act_60 : decode cX7_act 60 = .ok (.aload_n 0, 1) := by decide +kernel
theorem dX7_act_61 : decode cX7_act 61 = .ok (.iload_n 2, 1) := by decide +kernel
theorem dX7_act_62 : decode cX7_act 62 = .ok (.invokevirtual 110, 3) := by decide +kernel
theorem dX7_act_65 : decode cX7_act 65 = .ok (.ireturn, 1) := by decide +kernel
theorem dX7_act_66 : decode cX7_act 66 = .ok (.aload_n 0, 1) := by decide +kernel
theorem dX7_act_67 : decode cX7_act 67 = .ok (.iload_n 2, 1) := by decide +kernel
theorem dX7_act_68 : decode cX7_act 68 = .ok (.iload_n 3, 1) := by decide +kernel
theorem dX7_act_69 : decode cX7_act 69 = .ok (.iload 4, 2) := by decide +kernel
theorem dX7_act_71 : decode cX7_act 71 = .ok (.invokevirtual 113, 3) := by decide +kernel
theorem dX7_act_74 : decode cX7_act 74 = .ok (.ireturn, 1) := by decide +kernel
theorem dX7_act_75 : decode cX7_act 75 = .ok (.aload_n 0, 1) := by decide +kernel
theorem dX7_act_76 : decode cX7_act 76 = .ok (.iload_n 2, 1) := by decide +kernel
theorem dX7_act_77 : decode cX7_act 77 = .ok (.iload_n 3, 1) := by decide +kernel
theorem dX7_act_78 : decode cX7_act 78 = .ok (.iload 4, 2) := by decide +kernel
theorem dX7_act_80 : decode cX7_act 80 = .ok (.invokevirtual 117, 3) := by decide +kernel
theorem dX7_act_83 : decode cX7_act 83 = .ok (.ireturn, 1) := by decide +kernel
theorem dX7_act_84 : decode cX7_act 84 = .ok (.aload_n 0, 1) := by decide +kernel
theorem dX7_act_85 : decode cX7_act 85 = .ok (.iload_n 2, 1) := by decide +kernel
theorem dX7_act_86 : decode cX7_act 86 = .ok (.iload_n 3, 1) := by decide +kernel
theorem dX7_act_87 : decode cX7_act 87 = .ok (.iload 4, 2) := by decide +kernel
theorem dX7_act_89 : decode cX7_act 89 = .ok (.invokevirtual 120, 3) := by decide +kernel
theorem dX7_act_92 : decode cX7_act 92 = .ok (.ireturn, 1) := by decide +kernel
theorem dX7_startTune_0 : decode cX7_startTune 0 = .ok (.aload_n 0, 1) := by decide +kernel
theorem dX7_startTune_1 : decode cX7_startTune 1 = .ok (.getfield 47, 3) := by decide +kernel
theorem dX7_startTune_4 : decode cX7_startTune 4 = .ok (.bipush 99, 2) := by decide +kernel
theorem dX7_startTune_6 : decode cX7_startTune 6 = .ok (.if_icmp .lt 5, 3) := by decide +kernel
theorem dX7_startTune_9 : decode cX7_startTune 9 = .ok (.iconst 0, 1) := by decide +kernel
theorem dX7_startTune_10 : decode cX7_startTune 10 = .ok (.ireturn, 1) := by decide +kernel
theorem dX7_startTune_11 : decode cX7_startTune 11 = .ok (.aload_n 0, 1) := by decide +kernel
theorem dX7_startTune_12 : decode cX7_startTune 12 = .ok (.dup, 1) := by decide +kernel
theorem dX7_startTune_13 : decode cX7_startTune 13 = .ok (.getfield 47, 3) := by decide +kernel
theorem dX7_startTune_16 : decode cX7_startTune 16 = .ok (.iconst 1, 1) := by decide +kernel
theorem dX7_startTune_17 : decode cX7_startTune 17 = .ok (.iadd, 1) := by decide +kernel
theorem dX7_startTune_18 : decode cX7_startTune 18 = .ok (.putfield 47, 3) := by decide +kernel
theorem dX7_startTune_21 : decode cX7_startTune 21 = .ok (.aload_n 0, 1) := by decide +kernel
theorem dX7_startTune_22 : decode cX7_startTune 22 = .ok (.getfield 12, 3) := by decide +kernel
theorem dX7_startTune_25 : decode cX7_startTune 25 = .ok (.aload_n 0, 1) := by decide +kernel
theorem dX7_startTune_26 : decode cX7_startTune 26 = .ok (.getfield 47, 3) := by decide +kernel
theorem dX7_startTune_29 : decode cX7_startTune 29 = .ok (.invokevirtual 123, 3) := by decide +kernel
theorem dX7_startTune_32 : decode cX7_startTune 32 = .ok (.ifCond .ne 14, 3) := by decide +kernel
theorem dX7_startTune_35 : decode cX7_startTune 35 = .ok (.aload_n 0, 1) := by decide +kernel
theorem dX7_startTune_36 : decode cX7_startTune 36 = .ok (.getfield 12, 3) := by decide +kernel
theorem dX7_startTune_39 : decode cX7_startTune 39 = .ok (.iconst 0, 1) := by decide +kernel
theorem dX7_startTune_40 : decode cX7_startTune 40 = .ok (.invokevirtual 126, 3) := by decide +kernel
theorem dX7_startTune_43 : decode cX7_startTune 43 = .ok (.ifCond .eq 7, 3) := by decide +kernel
theorem dX7_startTune_46 : decode cX7_startTune 46 = .ok (.iconst 1, 1) := by decide +kernel
theorem dX7_startTune_47 : decode cX7_startTune 47 = .ok (.goto 4, 3) := by decide +kernel
theorem dX7_startTune_50 : decode cX7_startTune 50 = .ok (.iconst 0, 1) := by decide +kernel
theorem dX7_startTune_51 : decode cX7_startTune 51 = .ok (.istore_n 1, 1) := by decide +kernel
theorem dX7_startTune_52 : decode cX7_startTune 52 = .ok (.aload_n 0, 1) := by decide +kernel
theorem dX7_startTune_53 : decode cX7_startTune 53 = .ok (.iload_n 1, 1) := by decide +kernel
theorem dX7_startTune_54 : decode cX7_startTune 54 = .ok (.ifCond .eq 7, 3) := by decide +kernel
theorem dX7_startTune_57 : decode cX7_startTune 57 = .ok (.iconst 1, 1) := by decide +kernel
theorem dX7_startTune_58 : decode cX7_startTune 58 = .ok (.goto 4, 3) := by decide +kernel
theorem dX7_startTune_61 : decode cX7_startTune 61 = .ok (.iconst 0, 1) := by decide +kernel
theorem dX7_startTune_62 : decode cX7_startTune 62 = .ok (.putfield 53, 3) := by decide +kernel
theorem dX7_startTune_65 : decode cX7_startTune 65 = .ok (.iload_n 1, 1) := by decide +kernel
theorem dX7_startTune_66 : decode cX7_startTune 66 = .ok (.ifCond .eq 44, 3) := by decide +kernel
theorem dX7_startTune_69 : decode cX7_startTune 69 = .ok (.aload_n 0, 1) := by decide +kernel
theorem dX7_startTune_70 : decode cX7_startTune 70 = .ok (.dup, 1) := by decide +kernel
theorem dX7_startTune_71 : decode cX7_startTune 71 = .ok (.getfield 50, 3) := by decide +kernel
theorem dX7_startTune_74 : decode cX7_startTune 74 = .ok (.iconst 1, 1) := by decide +kernel
theorem dX7_startTune_75 : decode cX7_startTune 75 = .ok (.iadd, 1) := by decide +kernel
theorem dX7_startTune_76 : decode cX7_startTune 76 = .ok (.putfield 50, 3) := by decide +kernel
theorem dX7_startTune_79 : decode cX7_startTune 79 = .ok (.aload_n 0, 1) := by decide +kernel
theorem dX7_startTune_80 : decode cX7_startTune 80 = .ok (.iconst 0, 1) := by decide +kernel
theorem dX7_startTune_81 : decode cX7_startTune 81 = .ok (.putfield 59, 3) := by decide +kernel
theorem dX7_startTune_84 : decode cX7_startTune 84 = .ok (.aload_n 0, 1) := by decide +kernel
theorem dX7_startTune_85 : decode cX7_startTune 85 = .ok (.aload_n 0, 1) := by decide +kernel
theorem dX7_startTune_86 : decode cX7_startTune 86 = .ok (.getfield 56, 3) := by decide +kernel
theorem dX7_startTune_89 : decode cX7_startTune 89 = .ok (.iconst (-1), 1) := by decide +kernel
theorem dX7_startTune_90 : decode cX7_startTune 90 = .ok (.if_icmp .ne 10, 3) := by decide +kernel
theorem dX7_startTune_93 : decode cX7_startTune 93 = .ok (.aload_n 0, 1) := by decide +kernel
theorem dX7_startTune_94 : decode cX7_startTune 94 = .ok (.getfield 47, 3) := by decide +kernel
theorem dX7_startTune_97 : decode cX7_startTune 97 = .ok (.goto 7, 3) := by decide +kernel
theorem dX7_startTune_100 : decode cX7_startTune 100 = .ok (.aload_n 0, 1) := by decide +kernel
theorem dX7_startTune_101 : decode cX7_startTune 101 = .ok (.getfield 56, 3) := by decide +kernel
theorem dX7_startTune_104 : decode cX7_startTune 104 = .ok (.putfield 56, 3) := by decide +kernel
theorem dX7_startTune_107 : decode cX7_startTune 107 = .ok (.goto 28, 3) := by decide +kernel
theorem dX7_startTune_110 : decode cX7_startTune 110 = .ok (.aload_n 0, 1) := by decide +kernel
theorem dX7_startTune_111 : decode cX7_startTune 111 = .ok (.dup, 1) := by decide +kernel
theorem dX7_startTune_112 : decode cX7_startTune 112 = .ok (.getfield 59, 3) := by decide +kernel
theorem dX7_startTune_115 : decode cX7_startTune 115 = .ok (.iconst 1, 1) := by decide +kernel
theorem dX7_startTune_116 : decode cX7_startTune 116 = .ok (.iadd, 1) := by decide +kernel
theorem dX7_startTune_117 : decode cX7_startTune 117 = .ok (.putfield 59, 3) := by decide +kernel
theorem dX7_startTune_120 : decode cX7_startTune 120 = .ok (.aload_n 0, 1) := by decide +kernel
theorem dX7_startTune_121 : decode cX7_startTune 121 = .ok (.aload_n 0, 1) := by decide +kernel
theorem dX7_startTune_122 : decode cX7_startTune 122 = .ok (.getfield 62, 3) := by decide +kernel
theorem dX7_startTune_125 : decode cX7_startTune 125 = .ok (.aload_n 0, 1) := by decide +kernel
theorem dX7_startTune_126 : decode cX7_startTune 126 = .ok (.getfield 59, 3) := by decide +kernel
theorem dX7_startTune_129 : decode cX7_startTune 129 = .ok (.invokestatic 129, 3) := by decide +kernel
theorem dX7_startTune_132 : decode cX7_startTune 132 = .ok (.putfield 62, 3) := by decide +kernel
theorem dX7_startTune_135 : decode cX7_startTune 135 = .ok (.iconst 1, 1) := by decide +kernel
theorem dX7_startTune_136 : decode cX7_startTune 136 = .ok (.ireturn, 1) := by decide +kernel
theorem dX7_straighten_0 : decode cX7_straighten 0 = .ok (.aload_n 0, 1) := by decide +kernel
theorem dX7_straighten_1 : decode cX7_straighten 1 = .ok (.getfield 12, 3) := by decide +kernel
theorem dX7_straighten_4 : decode cX7_straighten 4 = .ok (.getfield 134, 3) := by decide +kernel
theorem dX7_straighten_7 : decode cX7_straighten 7 = .ok (.ifCond .ne 5, 3) := by decide +kernel
theorem dX7_straighten_10 : decode cX7_straighten 10 = .ok (.iconst 0, 1) := by decide +kernel
theorem dX7_straighten_11 : decode cX7_straighten 11 = .ok (.ireturn, 1) := by decide +kernel
theorem dX7_straighten_12 : decode cX7_straighten 12 = .ok (.aload_n 0, 1) := by decide +kernel
theorem dX7_straighten_13 : decode cX7_straighten 13 = .ok (.getfield 12, 3) := by decide +kernel
theorem dX7_straighten_16 : decode cX7_straighten 16 = .ok (.iconst 0, 1) := by decide +kernel
theorem dX7_straighten_17 : decode cX7_straighten 17 = .ok (.putfield 134, 3) := by decide +kernel
theorem dX7_straighten_20 : decode cX7_straighten 20 = .ok (.iconst 1, 1) := by decide +kernel
theorem dX7_straighten_21 : decode cX7_straighten 21 = .ok (.ireturn, 1) := by decide +kernel
theorem dX7_question_0 : decode cX7_question 0 = .ok (.aload_n 0, 1) := by decide +kernel
theorem dX7_question_1 : decode cX7_question 1 = .ok (.dup, 1) := by decide +kernel
theorem dX7_question_2 : decode cX7_question 2 = .ok (.getfield 71, 3) := by decide +kernel
theorem dX7_question_5 : decode cX7_question 5 = .ok (.iconst 1, 1) := by decide +kernel
theorem dX7_question_6 : decode cX7_question 6 = .ok (.iadd, 1) := by decide +kernel
theorem dX7_question_7 : decode cX7_question 7 = .ok (.putfield 71, 3) := by decide +kernel
theorem dX7_question_10 : decode cX7_question 10 = .ok (.aload_n 0, 1) := by decide +kernel
theorem dX7_question_11 : decode cX7_question 11 = .ok (.dup, 1) := by decide +kernel
theorem dX7_question_12 : decode cX7_question 12 = .ok (.getfield 65, 3) := by decide +kernel
theorem dX7_question_15 : decode cX7_question 15 = .ok (.iconst 1, 1) := by decide +kernel
theorem dX7_question_16 : decode cX7_question 16 = .ok (.iload_n 1, 1) := by decide +kernel
theorem dX7_question_17 : decode cX7_question 17 = .ok (.ishl, 1) := by decide +kernel
theorem dX7_question_18 : decode cX7_question 18 = .ok (.ior, 1) := by decide +kernel
theorem dX7_question_19 : decode cX7_question 19 = .ok (.putfield 65, 3) := by decide +kernel
theorem dX7_question_22 : decode cX7_question 22 = .ok (.aload_n 0, 1) := by decide +kernel
theorem dX7_question_23 : decode cX7_question 23 = .ok (.getfield 12, 3) := by decide +kernel
theorem dX7_question_26 : decode cX7_question 26 = .ok (.iload_n 1, 1) := by decide +kernel
theorem dX7_question_27 : decode cX7_question 27 = .ok (.invokevirtual 137, 3) := by decide +kernel
theorem dX7_question_30 : decode cX7_question 30 = .ok (.ifCond .eq 15, 3) := by decide +kernel
theorem dX7_question_33 : decode cX7_question 33 = .ok (.aload_n 0, 1) := by decide +kernel
theorem dX7_question_34 : decode cX7_question 34 = .ok (.dup, 1) := by decide +kernel
theorem dX7_question_35 : decode cX7_question 35 = .ok (.getfield 68, 3) := by decide +kernel
theorem dX7_question_38 : decode cX7_question 38 = .ok (.iconst 1, 1) := by decide +kernel
theorem dX7_question_39 : decode cX7_question 39 = .ok (.iload_n 1, 1) := by decide +kernel
theorem dX7_question_40 : decode cX7_question 40 = .ok (.ishl, 1) := by decide +kernel
theorem dX7_question_41 : decode cX7_question 41 = .ok (.ior, 1) := by decide +kernel
theorem dX7_question_42 : decode cX7_question 42 = .ok (.putfield 68, 3) := by decide +kernel
theorem dX7_question_45 : decode cX7_question 45 = .ok (.iconst 1, 1) := by decide +kernel
theorem dX7_question_46 : decode cX7_question 46 = .ok (.ireturn, 1) := by decide +kernel
theorem dX7_bring_0 : decode cX7_bring 0 = .ok (.aload_n 0, 1) := by decide +kernel
theorem dX7_bring_1 : decode cX7_bring 1 = .ok (.aload_n 0, 1) := by decide +kernel
theorem dX7_bring_2 : decode cX7_bring 2 = .ok (.getfield 80, 3) := by decide +kernel
theorem dX7_bring_5 : decode cX7_bring 5 = .ok (.aload_n 0, 1) := by decide +kernel
theorem dX7_bring_6 : decode cX7_bring 6 = .ok (.getfield 12, 3) := by decide +kernel
theorem dX7_bring_9 : decode cX7_bring 9 = .ok (.iload_n 1, 1) := by decide +kernel
theorem dX7_bring_10 : decode cX7_bring 10 = .ok (.iload_n 2, 1) := by decide +kernel
theorem dX7_bring_11 : decode cX7_bring 11 = .ok (.iload_n 3, 1) := by decide +kernel
theorem dX7_bring_12 : decode cX7_bring 12 = .ok (.invokevirtual 140, 3) := by decide +kernel
theorem dX7_bring_15 : decode cX7_bring 15 = .ok (.invokestatic 129, 3) := by decide +kernel
theorem dX7_bring_18 : decode cX7_bring 18 = .ok (.putfield 80, 3) := by decide +kernel
theorem dX7_bring_21 : decode cX7_bring 21 = .ok (.aload_n 0, 1) := by decide +kernel
theorem dX7_bring_22 : decode cX7_bring 22 = .ok (.getfield 12, 3) := by decide +kernel
theorem dX7_bring_25 : decode cX7_bring 25 = .ok (.iload_n 1, 1) := by decide +kernel
theorem dX7_bring_26 : decode cX7_bring 26 = .ok (.iload_n 2, 1) := by decide +kernel
theorem dX7_bring_27 : decode cX7_bring 27 = .ok (.iload_n 3, 1) := by decide +kernel
theorem dX7_bring_28 : decode cX7_bring 28 = .ok (.invokevirtual 144, 3) := by decide +kernel
theorem dX7_bring_31 : decode cX7_bring 31 = .ok (.iconst 1, 1) := by decide +kernel
theorem dX7_bring_32 : decode cX7_bring 32 = .ok (.ireturn, 1) := by decide +kernel
theorem dX7_makeGood_0 : decode cX7_makeGood 0 = .ok (.aload_n 0, 1) := by decide +kernel
theorem dX7_makeGood_1 : decode cX7_makeGood 1 = .ok (.getfield 12, 3) := by decide +kernel
theorem dX7_makeGood_4 : decode cX7_makeGood 4 = .ok (.iload_n 1, 1) := by decide +kernel
theorem dX7_makeGood_5 : decode cX7_makeGood 5 = .ok (.iload_n 2, 1) := by decide +kernel
theorem dX7_makeGood_6 : decode cX7_makeGood 6 = .ok (.invokevirtual 148, 3) := by decide +kernel
theorem dX7_makeGood_9 : decode cX7_makeGood 9 = .ok (.istore 4, 2) := by decide +kernel
theorem dX7_makeGood_11 : decode cX7_makeGood 11 = .ok (.iload 4, 2) := by decide +kernel
theorem dX7_makeGood_13 : decode cX7_makeGood 13 = .ok (.iload_n 3, 1) := by decide +kernel
theorem dX7_makeGood_14 : decode cX7_makeGood 14 = .ok (.if_icmp .ge 5, 3) := by decide +kernel
theorem dX7_makeGood_17 : decode cX7_makeGood 17 = .ok (.iconst 0, 1) := by decide +kernel
theorem dX7_makeGood_18 : decode cX7_makeGood 18 = .ok (.ireturn, 1) := by decide +kernel
theorem dX7_makeGood_19 : decode cX7_makeGood 19 = .ok (.aload_n 0, 1) := by decide +kernel
theorem dX7_makeGood_20 : decode cX7_makeGood 20 = .ok (.getfield 12, 3) := by decide +kernel
theorem dX7_makeGood_23 : decode cX7_makeGood 23 = .ok (.iload_n 1, 1) := by decide +kernel
theorem dX7_makeGood_24 : decode cX7_makeGood 24 = .ok (.iload_n 2, 1) := by decide +kernel
theorem dX7_makeGood_25 : decode cX7_makeGood 25 = .ok (.iload 4, 2) := by decide +kernel
theorem dX7_makeGood_27 : decode cX7_makeGood 27 = .ok (.iload_n 3, 1) := by decide +kernel
theorem dX7_makeGood_28 : decode cX7_makeGood 28 = .ok (.isub, 1) := by decide +kernel
theorem dX7_makeGood_29 : decode cX7_makeGood 29 = .ok (.invokevirtual 151, 3) := by decide +kernel
theorem dX7_makeGood_32 : decode cX7_makeGood 32 = .ok (.aload_n 0, 1) := by decide +kernel
theorem dX7_makeGood_33 : decode cX7_makeGood 33 = .ok (.dup, 1) := by decide +kernel
theorem dX7_makeGood_34 : decode cX7_makeGood 34 = .ok (.getfield 74, 3) := by decide +kernel
theorem dX7_makeGood_37 : decode cX7_makeGood 37 = .ok (.iload_n 3, 1) := by decide +kernel
theorem dX7_makeGood_38 : decode cX7_makeGood 38 = .ok (.iadd, 1) := by decide +kernel
theorem dX7_makeGood_39 : decode cX7_makeGood 39 = .ok (.putfield 74, 3) := by decide +kernel
theorem dX7_makeGood_42 : decode cX7_makeGood 42 = .ok (.iconst 1, 1) := by decide +kernel
theorem dX7_makeGood_43 : decode cX7_makeGood 43 = .ok (.ireturn, 1) := by decide +kernel
theorem dX7_offend_0 : decode cX7_offend 0 = .ok (.aload_n 0, 1) := by decide +kernel
theorem dX7_offend_1 : decode cX7_offend 1 = .ok (.getfield 12, 3) := by decide +kernel
theorem dX7_offend_4 : decode cX7_offend 4 = .ok (.iload_n 1, 1) := by decide +kernel
theorem dX7_offend_5 : decode cX7_offend 5 = .ok (.iload_n 2, 1) := by decide +kernel
theorem dX7_offend_6 : decode cX7_offend 6 = .ok (.invokevirtual 148, 3) := by decide +kernel
theorem dX7_offend_9 : decode cX7_offend 9 = .ok (.istore 4, 2) := by decide +kernel
theorem dX7_offend_11 : decode cX7_offend 11 = .ok (.iload 4, 2) := by decide +kernel
theorem dX7_offend_13 : decode cX7_offend 13 = .ok (.iload_n 3, 1) := by decide +kernel
theorem dX7_offend_14 : decode cX7_offend 14 = .ok (.iadd, 1) := by decide +kernel
theorem dX7_offend_15 : decode cX7_offend 15 = .ok (.bipush 9, 2) := by decide +kernel
theorem dX7_offend_17 : decode cX7_offend 17 = .ok (.if_icmp .le 5, 3) := by decide +kernel
theorem dX7_offend_20 : decode cX7_offend 20 = .ok (.iconst 0, 1) := by decide +kernel
theorem dX7_offend_21 : decode cX7_offend 21 = .ok (.ireturn, 1) := by decide +kernel
theorem dX7_offend_22 : decode cX7_offend 22 = .ok (.aload_n 0, 1) := by decide +kernel
theorem dX7_offend_23 : decode cX7_offend 23 = .ok (.getfield 12, 3) := by decide +kernel
theorem dX7_offend_26 : decode cX7_offend 26 = .ok (.iload_n 1, 1) := by decide +kernel
theorem dX7_offend_27 : decode cX7_offend 27 = .ok (.iload_n 2, 1) := by decide +kernel
theorem dX7_offend_28 : decode cX7_offend 28 = .ok (.iload 4, 2) := by decide +kernel
theorem dX7_offend_30 : decode cX7_offend 30 = .ok (.iload_n 3, 1) := by decide +kernel
theorem dX7_offend_31 : decode cX7_offend 31 = .ok (.iadd, 1) := by decide +kernel
theorem dX7_offend_32 : decode cX7_offend 32 = .ok (.invokevirtual 151, 3) := by decide +kernel
theorem dX7_offend_35 : decode cX7_offend 35 = .ok (.aload_n 0, 1) := by decide +kernel
theorem dX7_offend_36 : decode cX7_offend 36 = .ok (.dup, 1) := by decide +kernel
theorem dX7_offend_37 : decode cX7_offend 37 = .ok (.getfield 77, 3) := by decide +kernel
theorem dX7_offend_40 : decode cX7_offend 40 = .ok (.iload_n 3, 1) := by decide +kernel
theorem dX7_offend_41 : decode cX7_offend 41 = .ok (.iadd, 1) := by decide +kernel
theorem dX7_offend_42 : decode cX7_offend 42 = .ok (.putfield 77, 3) := by decide +kernel
theorem dX7_offend_45 : decode cX7_offend 45 = .ok (.iconst 1, 1) := by decide +kernel
theorem dX7_offend_46 : decode cX7_offend 46 = .ok (.ireturn, 1) := by decide +kernel
theorem dX7_tell_0 : decode cX7_tell 0 = .ok (.iload_n 1, 1) := by decide +kernel
theorem dX7_tell_1 : decode cX7_tell 1 = .ok (.tableswitch 85 0 6 #[43, 48, 53, 61, 70, 75, 80], 43) := by decide +kernel
theorem dX7_tell_44 : decode cX7_tell 44 = .ok (.aload_n 0, 1) := by decide +kernel
theorem dX7_tell_45 : decode cX7_tell 45 = .ok (.getfield 47, 3) := by decide +kernel
theorem dX7_tell_48 : decode cX7_tell 48 = .ok (.ireturn, 1) := by decide +kernel
theorem dX7_tell_49 : decode cX7_tell 49 = .ok (.aload_n 0, 1) := by decide +kernel
theorem dX7_tell_50 : decode cX7_tell 50 = .ok (.getfield 50, 3) := by decide +kernel
theorem dX7_tell_53 : decode cX7_tell 53 = .ok (.ireturn, 1) := by decide +kernel
theorem dX7_tell_54 : decode cX7_tell 54 = .ok (.aload_n 0, 1) := by decide +kernel
theorem dX7_tell_55 : decode cX7_tell 55 = .ok (.getfield 12, 3) := by decide +kernel
theorem dX7_tell_58 : decode cX7_tell 58 = .ok (.getfield 134, 3) := by decide +kernel
theorem dX7_tell_61 : decode cX7_tell 61 = .ok (.ireturn, 1) := by decide +kernel
theorem dX7_tell_62 : decode cX7_tell 62 = .ok (.aload_n 0, 1) := by decide +kernel
theorem dX7_tell_63 : decode cX7_tell 63 = .ok (.getfield 12, 3) := by decide +kernel
theorem dX7_tell_66 : decode cX7_tell 66 = .ok (.iconst 0, 1) := by decide +kernel
theorem dX7_tell_67 : decode cX7_tell 67 = .ok (.invokevirtual 126, 3) := by decide +kernel
theorem dX7_tell_70 : decode cX7_tell 70 = .ok (.ireturn, 1) := by decide +kernel
theorem dX7_tell_71 : decode cX7_tell 71 = .ok (.aload_n 0, 1) := by decide +kernel
theorem dX7_tell_72 : decode cX7_tell 72 = .ok (.getfield 65, 3) := by decide +kernel
theorem dX7_tell_75 : decode cX7_tell 75 = .ok (.ireturn, 1) := by decide +kernel
theorem dX7_tell_76 : decode cX7_tell 76 = .ok (.aload_n 0, 1) := by decide +kernel
theorem dX7_tell_77 : decode cX7_tell 77 = .ok (.getfield 68, 3) := by decide +kernel
theorem dX7_tell_80 : decode cX7_tell 80 = .ok (.ireturn, 1) := by decide +kernel
theorem dX7_tell_81 : decode cX7_tell 81 = .ok (.aload_n 0, 1) := by decide +kernel
theorem dX7_tell_82 : decode cX7_tell 82 = .ok (.getfield 53, 3) := by decide +kernel
theorem dX7_tell_85 : decode cX7_tell 85 = .ok (.ireturn, 1) := by decide +kernel
theorem dX7_tell_86 : decode cX7_tell 86 = .ok (.aload_n 0, 1) := by decide +kernel
theorem dX7_tell_87 : decode cX7_tell 87 = .ok (.iload_n 1, 1) := by decide +kernel
theorem dX7_tell_88 : decode cX7_tell 88 = .ok (.invokevirtual 154, 3) := by decide +kernel
theorem dX7_tell_91 : decode cX7_tell 91 = .ok (.ireturn, 1) := by decide +kernel
theorem dX7_tellOfGoer_0 : decode cX7_tellOfGoer 0 = .ok (.iload_n 1, 1) := by decide +kernel
theorem dX7_tellOfGoer_1 : decode cX7_tellOfGoer 1 = .ok (.bipush 10, 2) := by decide +kernel
theorem dX7_tellOfGoer_3 : decode cX7_tellOfGoer 3 = .ok (.if_icmp .lt 12, 3) := by decide +kernel
theorem dX7_tellOfGoer_6 : decode cX7_tellOfGoer 6 = .ok (.iload_n 1, 1) := by decide +kernel
theorem dX7_tellOfGoer_7 : decode cX7_tellOfGoer 7 = .ok (.bipush 10, 2) := by decide +kernel
theorem dX7_tellOfGoer_9 : decode cX7_tellOfGoer 9 = .ok (.irem, 1) := by decide +kernel
theorem dX7_tellOfGoer_10 : decode cX7_tellOfGoer 10 = .ok (.bipush 8, 2) := by decide +kernel
theorem dX7_tellOfGoer_12 : decode cX7_tellOfGoer 12 = .ok (.if_icmp .lt 6, 3) := by decide +kernel
theorem dX7_tellOfGoer_15 : decode cX7_tellOfGoer 15 = .ok (.bipush (-2), 2) := by decide +kernel
theorem dX7_tellOfGoer_17 : decode cX7_tellOfGoer 17 = .ok (.ireturn, 1) := by decide +kernel
theorem dX7_tellOfGoer_18 : decode cX7_tellOfGoer 18 = .ok (.iload_n 1, 1) := by decide +kernel
theorem dX7_tellOfGoer_19 : decode cX7_tellOfGoer 19 = .ok (.bipush 10, 2) := by decide +kernel
theorem dX7_tellOfGoer_21 : decode cX7_tellOfGoer 21 = .ok (.idiv, 1) := by decide +kernel
theorem dX7_tellOfGoer_22 : decode cX7_tellOfGoer 22 = .ok (.istore_n 2, 1) := by decide +kernel
theorem dX7_tellOfGoer_23 : decode cX7_tellOfGoer 23 = .ok (.iload_n 1, 1) := by decide +kernel
theorem dX7_tellOfGoer_24 : decode cX7_tellOfGoer 24 = .ok (.bipush 10, 2) := by decide +kernel
theorem dX7_tellOfGoer_26 : decode cX7_tellOfGoer 26 = .ok (.irem, 1) := by decide +kernel
theorem dX7_tellOfGoer_27 : decode cX7_tellOfGoer 27 = .ok (.istore_n 3, 1) := by decide +kernel
theorem dX7_tellOfGoer_28 : decode cX7_tellOfGoer 28 = .ok (.iload_n 2, 1) := by decide +kernel
theorem dX7_tellOfGoer_29 : decode cX7_tellOfGoer 29 = .ok (.iconst 2, 1) := by decide +kernel
theorem dX7_tellOfGoer_30 : decode cX7_tellOfGoer 30 = .ok (.if_icmp .gt 44, 3) := by decide +kernel
theorem dX7_tellOfGoer_33 : decode cX7_tellOfGoer 33 = .ok (.aload_n 0, 1) := by decide +kernel
theorem dX7_tellOfGoer_34 : decode cX7_tellOfGoer 34 = .ok (.getfield 12, 3) := by decide +kernel
theorem dX7_tellOfGoer_37 : decode cX7_tellOfGoer 37 = .ok (.iload_n 3, 1) := by decide +kernel
theorem dX7_tellOfGoer_38 : decode cX7_tellOfGoer 38 = .ok (.invokevirtual 106, 3) := by decide +kernel
theorem dX7_tellOfGoer_41 : decode cX7_tellOfGoer 41 = .ok (.ifCond .ne 8, 3) := by decide +kernel
theorem dX7_tellOfGoer_44 : decode cX7_tellOfGoer 44 = .ok (.bipush (-2), 2) := by decide +kernel
theorem dX7_tellOfGoer_46 : decode cX7_tellOfGoer 46 = .ok (.goto 27, 3) := by decide +kernel
theorem dX7_tellOfGoer_49 : decode cX7_tellOfGoer 49 = .ok (.iload_n 2, 1) := by decide +kernel
theorem dX7_tellOfGoer_50 : decode cX7_tellOfGoer 50 = .ok (.iconst 1, 1) := by decide +kernel
theorem dX7_tellOfGoer_51 : decode cX7_tellOfGoer 51 = .ok (.if_icmp .ne 14, 3) := by decide +kernel
theorem dX7_tellOfGoer_54 : decode cX7_tellOfGoer 54 = .ok (.aload_n 0, 1) := by decide +kernel
theorem dX7_tellOfGoer_55 : decode cX7_tellOfGoer 55 = .ok (.getfield 12, 3) := by decide +kernel
theorem dX7_tellOfGoer_58 : decode cX7_tellOfGoer 58 = .ok (.iload_n 3, 1) := by decide +kernel
theorem dX7_tellOfGoer_59 : decode cX7_tellOfGoer 59 = .ok (.invokevirtual 157, 3) := by decide +kernel
theorem dX7_tellOfGoer_62 : decode cX7_tellOfGoer 62 = .ok (.goto 11, 3) := by decide +kernel
theorem dX7_tellOfGoer_65 : decode cX7_tellOfGoer 65 = .ok (.aload_n 0, 1) := by decide +kernel
theorem dX7_tellOfGoer_66 : decode cX7_tellOfGoer 66 = .ok (.getfield 12, 3) := by decide +kernel
theorem dX7_tellOfGoer_69 : decode cX7_tellOfGoer 69 = .ok (.iload_n 3, 1) := by decide +kernel
theorem dX7_tellOfGoer_70 : decode cX7_tellOfGoer 70 = .ok (.invokevirtual 160, 3) := by decide +kernel
theorem dX7_tellOfGoer_73 : decode cX7_tellOfGoer 73 = .ok (.ireturn, 1) := by decide +kernel
theorem dX7_tellOfGoer_74 : decode cX7_tellOfGoer 74 = .ok (.aload_n 0, 1) := by decide +kernel
theorem dX7_tellOfGoer_75 : decode cX7_tellOfGoer 75 = .ok (.getfield 12, 3) := by decide +kernel
theorem dX7_tellOfGoer_78 : decode cX7_tellOfGoer 78 = .ok (.iload_n 2, 1) := by decide +kernel
theorem dX7_tellOfGoer_79 : decode cX7_tellOfGoer 79 = .ok (.bipush 10, 2) := by decide +kernel
theorem dX7_tellOfGoer_81 : decode cX7_tellOfGoer 81 = .ok (.isub, 1) := by decide +kernel
theorem dX7_tellOfGoer_82 : decode cX7_tellOfGoer 82 = .ok (.invokevirtual 106, 3) := by decide +kernel
theorem dX7_tellOfGoer_85 : decode cX7_tellOfGoer 85 = .ok (.ifCond .eq 24, 3) := by decide +kernel
theorem dX7_tellOfGoer_88 : decode cX7_tellOfGoer 88 = .ok (.iload_n 3, 1) := by decide +kernel
theorem dX7_tellOfGoer_89 : decode cX7_tellOfGoer 89 = .ok (.bipush 6, 2) := by decide +kernel
theorem dX7_tellOfGoer_91 : decode cX7_tellOfGoer 91 = .ok (.if_icmp .ge 18, 3) := by decide +kernel
theorem dX7_tellOfGoer_94 : decode cX7_tellOfGoer 94 = .ok (.aload_n 0, 1) := by decide +kernel
theorem dX7_tellOfGoer_95 : decode cX7_tellOfGoer 95 = .ok (.getfield 12, 3) := by decide +kernel
theorem dX7_tellOfGoer_98 : decode cX7_tellOfGoer 98 = .ok (.iload_n 2, 1) := by decide +kernel
theorem dX7_tellOfGoer_99 : decode cX7_tellOfGoer 99 = .ok (.bipush 10, 2) := by decide +kernel
theorem dX7_tellOfGoer_101 : decode cX7_tellOfGoer 101 = .ok (.isub, 1) := by decide +kernel
theorem dX7_tellOfGoer_102 : decode cX7_tellOfGoer 102 = .ok (.iload_n 3, 1) := by decide +kernel
theorem dX7_tellOfGoer_103 : decode cX7_tellOfGoer 103 = .ok (.invokevirtual 148, 3) := by decide +kernel
theorem dX7_tellOfGoer_106 : decode cX7_tellOfGoer 106 = .ok (.goto 5, 3) := by decide +kernel
theorem dX7_tellOfGoer_109 : decode cX7_tellOfGoer 109 = .ok (.bipush (-2), 2) := by decide +kernel
theorem dX7_tellOfGoer_111 : decode cX7_tellOfGoer 111 = .ok (.ireturn, 1) := by decide +kernel
theorem dX7_sumUp_0 : decode cX7_sumUp 0 = .ok (.iload_n 1, 1) := by decide +kernel
theorem dX7_sumUp_1 : decode cX7_sumUp 1 = .ok (.tableswitch 69 0 5 #[39, 44, 49, 54, 59, 64], 39) := by decide +kernel
theorem dX7_sumUp_40 : decode cX7_sumUp 40 = .ok (.aload_n 0, 1) := by decide +kernel
theorem dX7_sumUp_41 : decode cX7_sumUp 41 = .ok (.getfield 56, 3) := by decide +kernel
theorem dX7_sumUp_44 : decode cX7_sumUp 44 = .ok (.ireturn, 1) := by decide +kernel
theorem dX7_sumUp_45 : decode cX7_sumUp 45 = .ok (.aload_n 0, 1) := by decide +kernel
theorem dX7_sumUp_46 : decode cX7_sumUp 46 = .ok (.getfield 62, 3) := by decide +kernel
theorem dX7_sumUp_49 : decode cX7_sumUp 49 = .ok (.ireturn, 1) := by decide +kernel
theorem dX7_sumUp_50 : decode cX7_sumUp 50 = .ok (.aload_n 0, 1) := by decide +kernel
theorem dX7_sumUp_51 : decode cX7_sumUp 51 = .ok (.getfield 74, 3) := by decide +kernel
theorem dX7_sumUp_54 : decode cX7_sumUp 54 = .ok (.ireturn, 1) := by decide +kernel
theorem dX7_sumUp_55 : decode cX7_sumUp 55 = .ok (.aload_n 0, 1) := by decide +kernel
theorem dX7_sumUp_56 : decode cX7_sumUp 56 = .ok (.getfield 77, 3) := by decide +kernel
theorem dX7_sumUp_59 : decode cX7_sumUp 59 = .ok (.ireturn, 1) := by decide +kernel
theorem dX7_sumUp_60 : decode cX7_sumUp 60 = .ok (.aload_n 0, 1) := by decide +kernel
theorem dX7_sumUp_61 : decode cX7_sumUp 61 = .ok (.getfield 71, 3) := by decide +kernel
theorem dX7_sumUp_64 : decode cX7_sumUp 64 = .ok (.ireturn, 1) := by decide +kernel
theorem dX7_sumUp_65 : decode cX7_sumUp 65 = .ok (.aload_n 0, 1) := by decide +kernel
theorem dX7_sumUp_66 : decode cX7_sumUp 66 = .ok (.getfield 80, 3) := by decide +kernel
theorem dX7_sumUp_69 : decode cX7_sumUp 69 = .ok (.ireturn, 1) := by decide +kernel
theorem dX7_sumUp_70 : decode cX7_sumUp 70 = .ok (.bipush (-2), 2) := by decide +kernel
theorem dX7_sumUp_72 : decode cX7_sumUp 72 = .ok (.ireturn, 1) := by decide +kernel
