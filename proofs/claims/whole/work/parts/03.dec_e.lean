theorem dX11_init_0 : decode cX11_init 0 = .ok (.aload_n 0, 1) := by decide +kernel
theorem dX11_init_1 : decode cX11_init 1 = .ok (.invokespecial 1, 3) := by decide +kernel
theorem dX11_init_4 : decode cX11_init 4 = .ok (.aload_n 0, 1) := by decide +kernel
theorem dX11_init_5 : decode cX11_init 5 = .ok (.new 7, 3) := by decide +kernel
theorem dX11_init_8 : decode cX11_init 8 = .ok (.dup, 1) := by decide +kernel
theorem dX11_init_9 : decode cX11_init 9 = .ok (.invokespecial 9, 3) := by decide +kernel
theorem dX11_init_12 : decode cX11_init 12 = .ok (.putfield 10, 3) := by decide +kernel
theorem dX11_init_15 : decode cX11_init 15 = .ok (.aload_n 0, 1) := by decide +kernel
theorem dX11_init_16 : decode cX11_init 16 = .ok (.iconst 3, 1) := by decide +kernel
theorem dX11_init_17 : decode cX11_init 17 = .ok (.anewarray 7, 3) := by decide +kernel
theorem dX11_init_20 : decode cX11_init 20 = .ok (.putfield 16, 3) := by decide +kernel
theorem dX11_init_23 : decode cX11_init 23 = .ok (.iconst 0, 1) := by decide +kernel
theorem dX11_init_24 : decode cX11_init 24 = .ok (.istore_n 1, 1) := by decide +kernel
theorem dX11_init_25 : decode cX11_init 25 = .ok (.iload_n 1, 1) := by decide +kernel
theorem dX11_init_26 : decode cX11_init 26 = .ok (.iconst 3, 1) := by decide +kernel
theorem dX11_init_27 : decode cX11_init 27 = .ok (.if_icmp .ge 22, 3) := by decide +kernel
theorem dX11_init_30 : decode cX11_init 30 = .ok (.aload_n 0, 1) := by decide +kernel
theorem dX11_init_31 : decode cX11_init 31 = .ok (.getfield 16, 3) := by decide +kernel
theorem dX11_init_34 : decode cX11_init 34 = .ok (.iload_n 1, 1) := by decide +kernel
theorem dX11_init_35 : decode cX11_init 35 = .ok (.new 7, 3) := by decide +kernel
theorem dX11_init_38 : decode cX11_init 38 = .ok (.dup, 1) := by decide +kernel
theorem dX11_init_39 : decode cX11_init 39 = .ok (.invokespecial 9, 3) := by decide +kernel
theorem dX11_init_42 : decode cX11_init 42 = .ok (.aastore, 1) := by decide +kernel
theorem dX11_init_43 : decode cX11_init 43 = .ok (.iinc 1 1, 3) := by decide +kernel
theorem dX11_init_46 : decode cX11_init 46 = .ok (.goto (-21), 3) := by decide +kernel
theorem dX11_init_49 : decode cX11_init 49 = .ok (.aload_n 0, 1) := by decide +kernel
theorem dX11_init_50 : decode cX11_init 50 = .ok (.iconst 3, 1) := by decide +kernel
theorem dX11_init_51 : decode cX11_init 51 = .ok (.newarray .boolean, 2) := by decide +kernel
theorem dX11_init_53 : decode cX11_init 53 = .ok (.putfield 20, 3) := by decide +kernel
theorem dX11_init_56 : decode cX11_init 56 = .ok (.aload_n 0, 1) := by decide +kernel
theorem dX11_init_57 : decode cX11_init 57 = .ok (.new 24, 3) := by decide +kernel
theorem dX11_init_60 : decode cX11_init 60 = .ok (.dup, 1) := by decide +kernel
theorem dX11_init_61 : decode cX11_init 61 = .ok (.invokespecial 26, 3) := by decide +kernel
theorem dX11_init_64 : decode cX11_init 64 = .ok (.putfield 27, 3) := by decide +kernel
theorem dX11_init_67 : decode cX11_init 67 = .ok (.aload_n 0, 1) := by decide +kernel
theorem dX11_init_68 : decode cX11_init 68 = .ok (.new 31, 3) := by decide +kernel
theorem dX11_init_71 : decode cX11_init 71 = .ok (.dup, 1) := by decide +kernel
theorem dX11_init_72 : decode cX11_init 72 = .ok (.invokespecial 33, 3) := by decide +kernel
theorem dX11_init_75 : decode cX11_init 75 = .ok (.putfield 34, 3) := by decide +kernel
theorem dX11_init_78 : decode cX11_init 78 = .ok (.aload_n 0, 1) := by decide +kernel
theorem dX11_init_79 : decode cX11_init 79 = .ok (.new 38, 3) := by decide +kernel
theorem dX11_init_82 : decode cX11_init 82 = .ok (.dup, 1) := by decide +kernel
theorem dX11_init_83 : decode cX11_init 83 = .ok (.invokespecial 40, 3) := by decide +kernel
theorem dX11_init_86 : decode cX11_init 86 = .ok (.putfield 41, 3) := by decide +kernel
theorem dX11_init_89 : decode cX11_init 89 = .ok (.aload_n 0, 1) := by decide +kernel
theorem dX11_init_90 : decode cX11_init 90 = .ok (.new 45, 3) := by decide +kernel
theorem dX11_init_93 : decode cX11_init 93 = .ok (.dup, 1) := by decide +kernel
theorem dX11_init_94 : decode cX11_init 94 = .ok (.invokespecial 47, 3) := by decide +kernel
theorem dX11_init_97 : decode cX11_init 97 = .ok (.putfield 48, 3) := by decide +kernel
theorem dX11_init_100 : decode cX11_init 100 = .ok (.aload_n 0, 1) := by decide +kernel
theorem dX11_init_101 : decode cX11_init 101 = .ok (.new 52, 3) := by decide +kernel
theorem dX11_init_104 : decode cX11_init 104 = .ok (.dup, 1) := by decide +kernel
theorem dX11_init_105 : decode cX11_init 105 = .ok (.invokespecial 54, 3) := by decide +kernel
theorem dX11_init_108 : decode cX11_init 108 = .ok (.putfield 55, 3) := by decide +kernel
theorem dX11_init_111 : decode cX11_init 111 = .ok (.return_, 1) := by decide +kernel
theorem dX11_feed_0 : decode cX11_feed 0 = .ok (.aload_n 0, 1) := by decide +kernel
theorem dX11_feed_1 : decode cX11_feed 1 = .ok (.getfield 10, 3) := by decide +kernel
theorem dX11_feed_4 : decode cX11_feed 4 = .ok (.getfield 59, 3) := by decide +kernel
theorem dX11_feed_7 : decode cX11_feed 7 = .ok (.bipush 20, 2) := by decide +kernel
theorem dX11_feed_9 : decode cX11_feed 9 = .ok (.iadd, 1) := by decide +kernel
theorem dX11_feed_10 : decode cX11_feed 10 = .ok (.sipush 600, 3) := by decide +kernel
theorem dX11_feed_13 : decode cX11_feed 13 = .ok (.if_icmp .le 5, 3) := by decide +kernel
theorem dX11_feed_16 : decode cX11_feed 16 = .ok (.iconst (-1), 1) := by decide +kernel
theorem dX11_feed_17 : decode cX11_feed 17 = .ok (.ireturn, 1) := by decide +kernel
theorem dX11_feed_18 : decode cX11_feed 18 = .ok (.aload_n 0, 1) := by decide +kernel
theorem dX11_feed_19 : decode cX11_feed 19 = .ok (.getfield 10, 3) := by decide +kernel
theorem dX11_feed_22 : decode cX11_feed 22 = .ok (.iload_n 1, 1) := by decide +kernel
theorem dX11_feed_23 : decode cX11_feed 23 = .ok (.invokevirtual 63, 3) := by decide +kernel
theorem dX11_feed_26 : decode cX11_feed 26 = .ok (.aload_n 0, 1) := by decide +kernel
theorem dX11_feed_27 : decode cX11_feed 27 = .ok (.getfield 10, 3) := by decide +kernel
theorem dX11_feed_30 : decode cX11_feed 30 = .ok (.iload_n 2, 1) := by decide +kernel
theorem dX11_feed_31 : decode cX11_feed 31 = .ok (.invokevirtual 63, 3) := by decide +kernel
theorem dX11_feed_34 : decode cX11_feed 34 = .ok (.aload_n 0, 1) := by decide +kernel
theorem dX11_feed_35 : decode cX11_feed 35 = .ok (.getfield 10, 3) := by decide +kernel
theorem dX11_feed_38 : decode cX11_feed 38 = .ok (.iload_n 3, 1) := by decide +kernel
theorem dX11_feed_39 : decode cX11_feed 39 = .ok (.invokevirtual 63, 3) := by decide +kernel
theorem dX11_feed_42 : decode cX11_feed 42 = .ok (.aload_n 0, 1) := by decide +kernel
theorem dX11_feed_43 : decode cX11_feed 43 = .ok (.getfield 10, 3) := by decide +kernel
theorem dX11_feed_46 : decode cX11_feed 46 = .ok (.iload 4, 2) := by decide +kernel
theorem dX11_feed_48 : decode cX11_feed 48 = .ok (.invokevirtual 63, 3) := by decide +kernel
theorem dX11_feed_51 : decode cX11_feed 51 = .ok (.aload_n 0, 1) := by decide +kernel
theorem dX11_feed_52 : decode cX11_feed 52 = .ok (.getfield 10, 3) := by decide +kernel
theorem dX11_feed_55 : decode cX11_feed 55 = .ok (.iload 5, 2) := by decide +kernel
theorem dX11_feed_57 : decode cX11_feed 57 = .ok (.invokevirtual 63, 3) := by decide +kernel
theorem dX11_feed_60 : decode cX11_feed 60 = .ok (.aload_n 0, 1) := by decide +kernel
theorem dX11_feed_61 : decode cX11_feed 61 = .ok (.getfield 10, 3) := by decide +kernel
theorem dX11_feed_64 : decode cX11_feed 64 = .ok (.getfield 59, 3) := by decide +kernel
theorem dX11_feed_67 : decode cX11_feed 67 = .ok (.ireturn, 1) := by decide +kernel
theorem dX11_end_0 : decode cX11_end 0 = .ok (.iload_n 1, 1) := by decide +kernel
theorem dX11_end_1 : decode cX11_end 1 = .ok (.ifCond .lt 14, 3) := by decide +kernel
theorem dX11_end_4 : decode cX11_end 4 = .ok (.iload_n 1, 1) := by decide +kernel
theorem dX11_end_5 : decode cX11_end 5 = .ok (.aload_n 0, 1) := by decide +kernel
theorem dX11_end_6 : decode cX11_end 6 = .ok (.getfield 10, 3) := by decide +kernel
theorem dX11_end_9 : decode cX11_end 9 = .ok (.getfield 59, 3) := by decide +kernel
theorem dX11_end_12 : decode cX11_end 12 = .ok (.if_icmp .le 5, 3) := by decide +kernel
theorem dX11_end_15 : decode cX11_end 15 = .ok (.iconst (-1), 1) := by decide +kernel
theorem dX11_end_16 : decode cX11_end 16 = .ok (.ireturn, 1) := by decide +kernel
theorem dX11_end_17 : decode cX11_end 17 = .ok (.aload_n 0, 1) := by decide +kernel
theorem dX11_end_18 : decode cX11_end 18 = .ok (.getfield 10, 3) := by decide +kernel
theorem dX11_end_21 : decode cX11_end 21 = .ok (.iload_n 1, 1) := by decide +kernel
theorem dX11_end_22 : decode cX11_end 22 = .ok (.putfield 59, 3) := by decide +kernel
theorem dX11_end_25 : decode cX11_end 25 = .ok (.iload_n 1, 1) := by decide +kernel
theorem dX11_end_26 : decode cX11_end 26 = .ok (.ireturn, 1) := by decide +kernel
theorem dX11_text_0 : decode cX11_text 0 = .ok (.aload_n 0, 1) := by decide +kernel
theorem dX11_text_1 : decode cX11_text 1 = .ok (.getfield 10, 3) := by decide +kernel
theorem dX11_text_4 : decode cX11_text 4 = .ok (.iload_n 1, 1) := by decide +kernel
theorem dX11_text_5 : decode cX11_text 5 = .ok (.iload_n 2, 1) := by decide +kernel
theorem dX11_text_6 : decode cX11_text 6 = .ok (.invokevirtual 67, 3) := by decide +kernel
theorem dX11_text_9 : decode cX11_text 9 = .ok (.istore_n 3, 1) := by decide +kernel
theorem dX11_text_10 : decode cX11_text 10 = .ok (.aload_n 0, 1) := by decide +kernel
theorem dX11_text_11 : decode cX11_text 11 = .ok (.getfield 27, 3) := by decide +kernel
theorem dX11_text_14 : decode cX11_text 14 = .ok (.aload_n 0, 1) := by decide +kernel
theorem dX11_text_15 : decode cX11_text 15 = .ok (.getfield 10, 3) := by decide +kernel
theorem dX11_text_18 : decode cX11_text 18 = .ok (.invokevirtual 71, 3) := by decide +kernel
theorem dX11_text_21 : decode cX11_text 21 = .ok (.iload_n 3, 1) := by decide +kernel
theorem dX11_text_22 : decode cX11_text 22 = .ok (.ifCond .ge 22, 3) := by decide +kernel
theorem dX11_text_25 : decode cX11_text 25 = .ok (.aload_n 0, 1) := by decide +kernel
theorem dX11_text_26 : decode cX11_text 26 = .ok (.getfield 10, 3) := by decide +kernel
theorem dX11_text_29 : decode cX11_text 29 = .ok (.iconst 0, 1) := by decide +kernel
theorem dX11_text_30 : decode cX11_text 30 = .ok (.putfield 75, 3) := by decide +kernel
theorem dX11_text_33 : decode cX11_text 33 = .ok (.aload_n 0, 1) := by decide +kernel
theorem dX11_text_34 : decode cX11_text 34 = .ok (.getfield 10, 3) := by decide +kernel
theorem dX11_text_37 : decode cX11_text 37 = .ok (.iconst (-1), 1) := by decide +kernel
theorem dX11_text_38 : decode cX11_text 38 = .ok (.putfield 78, 3) := by decide +kernel
theorem dX11_text_41 : decode cX11_text 41 = .ok (.bipush (-2), 2) := by decide +kernel
theorem dX11_text_43 : decode cX11_text 43 = .ok (.ireturn, 1) := by decide +kernel
theorem dX11_text_44 : decode cX11_text 44 = .ok (.aload_n 0, 1) := by decide +kernel
theorem dX11_text_45 : decode cX11_text 45 = .ok (.getfield 27, 3) := by decide +kernel
theorem dX11_text_48 : decode cX11_text 48 = .ok (.iload_n 1, 1) := by decide +kernel
theorem dX11_text_49 : decode cX11_text 49 = .ok (.invokevirtual 81, 3) := by decide +kernel
theorem dX11_text_52 : decode cX11_text 52 = .ok (.aload_n 0, 1) := by decide +kernel
theorem dX11_text_53 : decode cX11_text 53 = .ok (.getfield 10, 3) := by decide +kernel
theorem dX11_text_56 : decode cX11_text 56 = .ok (.aload_n 0, 1) := by decide +kernel
theorem dX11_text_57 : decode cX11_text 57 = .ok (.getfield 27, 3) := by decide +kernel
theorem dX11_text_60 : decode cX11_text 60 = .ok (.getfield 84, 3) := by decide +kernel
theorem dX11_text_63 : decode cX11_text 63 = .ok (.putfield 75, 3) := by decide +kernel
theorem dX11_text_66 : decode cX11_text 66 = .ok (.aload_n 0, 1) := by decide +kernel
theorem dX11_text_67 : decode cX11_text 67 = .ok (.getfield 10, 3) := by decide +kernel
theorem dX11_text_70 : decode cX11_text 70 = .ok (.aload_n 0, 1) := by decide +kernel
theorem dX11_text_71 : decode cX11_text 71 = .ok (.getfield 27, 3) := by decide +kernel
theorem dX11_text_74 : decode cX11_text 74 = .ok (.getfield 85, 3) := by decide +kernel
theorem dX11_text_77 : decode cX11_text 77 = .ok (.putfield 78, 3) := by decide +kernel
theorem dX11_text_80 : decode cX11_text 80 = .ok (.aload_n 0, 1) := by decide +kernel
theorem dX11_text_81 : decode cX11_text 81 = .ok (.getfield 27, 3) := by decide +kernel
theorem dX11_text_84 : decode cX11_text 84 = .ok (.getfield 84, 3) := by decide +kernel
theorem dX11_text_87 : decode cX11_text 87 = .ok (.ifCond .eq 5, 3) := by decide +kernel
theorem dX11_text_90 : decode cX11_text 90 = .ok (.iconst (-1), 1) := by decide +kernel
theorem dX11_text_91 : decode cX11_text 91 = .ok (.ireturn, 1) := by decide +kernel
theorem dX11_text_92 : decode cX11_text 92 = .ok (.aload_n 0, 1) := by decide +kernel
theorem dX11_text_93 : decode cX11_text 93 = .ok (.getfield 10, 3) := by decide +kernel
theorem dX11_text_96 : decode cX11_text 96 = .ok (.iload_n 1, 1) := by decide +kernel
theorem dX11_text_97 : decode cX11_text 97 = .ok (.iload_n 3, 1) := by decide +kernel
theorem dX11_text_98 : decode cX11_text 98 = .ok (.aload_n 0, 1) := by decide +kernel
theorem dX11_text_99 : decode cX11_text 99 = .ok (.getfield 27, 3) := by decide +kernel
theorem dX11_text_102 : decode cX11_text 102 = .ok (.invokevirtual 86, 3) := by decide +kernel
theorem dX11_text_105 : decode cX11_text 105 = .ok (.iload_n 3, 1) := by decide +kernel
theorem dX11_text_106 : decode cX11_text 106 = .ok (.ireturn, 1) := by decide +kernel
theorem dX11_fault_0 : decode cX11_fault 0 = .ok (.iload_n 1, 1) := by decide +kernel
theorem dX11_fault_1 : decode cX11_fault 1 = .ok (.ifCond .ne 11, 3) := by decide +kernel
theorem dX11_fault_4 : decode cX11_fault 4 = .ok (.aload_n 0, 1) := by decide +kernel
theorem dX11_fault_5 : decode cX11_fault 5 = .ok (.getfield 10, 3) := by decide +kernel
theorem dX11_fault_8 : decode cX11_fault 8 = .ok (.getfield 75, 3) := by decide +kernel
theorem dX11_fault_11 : decode cX11_fault 11 = .ok (.ireturn, 1) := by decide +kernel
theorem dX11_fault_12 : decode cX11_fault 12 = .ok (.iload_n 1, 1) := by decide +kernel
theorem dX11_fault_13 : decode cX11_fault 13 = .ok (.iconst 1, 1) := by decide +kernel
theorem dX11_fault_14 : decode cX11_fault 14 = .ok (.if_icmp .ne 13, 3) := by decide +kernel
theorem dX11_fault_17 : decode cX11_fault 17 = .ok (.aload_n 0, 1) := by decide +kernel
theorem dX11_fault_18 : decode cX11_fault 18 = .ok (.getfield 10, 3) := by decide +kernel
theorem dX11_fault_21 : decode cX11_fault 21 = .ok (.getfield 78, 3) := by decide +kernel
theorem dX11_fault_24 : decode cX11_fault 24 = .ok (.goto 4, 3) := by decide +kernel
theorem dX11_fault_27 : decode cX11_fault 27 = .ok (.iconst (-1), 1) := by decide +kernel
theorem dX11_fault_28 : decode cX11_fault 28 = .ok (.ireturn, 1) := by decide +kernel
theorem dX11_fair_0 : decode cX11_fair 0 = .ok (.aload_n 0, 1) := by decide +kernel
theorem dX11_fair_1 : decode cX11_fair 1 = .ok (.iload_n 1, 1) := by decide +kernel
theorem dX11_fair_2 : decode cX11_fair 2 = .ok (.invokevirtual 90, 3) := by decide +kernel
theorem dX11_fair_5 : decode cX11_fair 5 = .ok (.astore_n 3, 1) := by decide +kernel
theorem dX11_fair_6 : decode cX11_fair 6 = .ok (.aload_n 3, 1) := by decide +kernel
theorem dX11_fair_7 : decode cX11_fair 7 = .ok (.ifnonnull 7, 3) := by decide +kernel
theorem dX11_fair_10 : decode cX11_fair 10 = .ok (.iconst (-1), 1) := by decide +kernel
theorem dX11_fair_11 : decode cX11_fair 11 = .ok (.goto 8, 3) := by decide +kernel
theorem dX11_fair_14 : decode cX11_fair 14 = .ok (.aload_n 3, 1) := by decide +kernel
theorem dX11_fair_15 : decode cX11_fair 15 = .ok (.iload_n 2, 1) := by decide +kernel
theorem dX11_fair_16 : decode cX11_fair 16 = .ok (.invokevirtual 94, 3) := by decide +kernel
theorem dX11_fair_19 : decode cX11_fair 19 = .ok (.ireturn, 1) := by decide +kernel
theorem dX11_deed_0 : decode cX11_deed 0 = .ok (.aload_n 0, 1) := by decide +kernel
theorem dX11_deed_1 : decode cX11_deed 1 = .ok (.iload_n 1, 1) := by decide +kernel
theorem dX11_deed_2 : decode cX11_deed 2 = .ok (.invokevirtual 100, 3) := by decide +kernel
theorem dX11_deed_5 : decode cX11_deed 5 = .ok (.astore 4, 2) := by decide +kernel
theorem dX11_deed_7 : decode cX11_deed 7 = .ok (.aload 4, 2) := by decide +kernel
theorem dX11_deed_9 : decode cX11_deed 9 = .ok (.ifnonnull 8, 3) := by decide +kernel
theorem dX11_deed_12 : decode cX11_deed 12 = .ok (.bipush (-2), 2) := by decide +kernel
theorem dX11_deed_14 : decode cX11_deed 14 = .ok (.goto 10, 3) := by decide +kernel
theorem dX11_deed_17 : decode cX11_deed 17 = .ok (.aload 4, 2) := by decide +kernel
theorem dX11_deed_19 : decode cX11_deed 19 = .ok (.iload_n 2, 1) := by decide +kernel
theorem dX11_deed_20 : decode cX11_deed 20 = .ok (.iload_n 3, 1) := by decide +kernel
theorem dX11_deed_21 : decode cX11_deed 21 = .ok (.invokevirtual 104, 3) := by decide +kernel
theorem dX11_deed_24 : decode cX11_deed 24 = .ok (.ireturn, 1) := by decide +kernel
theorem dX11_till_0 : decode cX11_till 0 = .ok (.aload_n 0, 1) := by decide +kernel
theorem dX11_till_1 : decode cX11_till 1 = .ok (.iload_n 1, 1) := by decide +kernel
theorem dX11_till_2 : decode cX11_till 2 = .ok (.invokevirtual 90, 3) := by decide +kernel
theorem dX11_till_5 : decode cX11_till 5 = .ok (.astore_n 3, 1) := by decide +kernel
theorem dX11_till_6 : decode cX11_till 6 = .ok (.aload_n 0, 1) := by decide +kernel
theorem dX11_till_7 : decode cX11_till 7 = .ok (.iload_n 2, 1) := by decide +kernel
theorem dX11_till_8 : decode cX11_till 8 = .ok (.invokevirtual 100, 3) := by decide +kernel
theorem dX11_till_11 : decode cX11_till 11 = .ok (.astore 4, 2) := by decide +kernel
theorem dX11_till_13 : decode cX11_till 13 = .ok (.aload_n 3, 1) := by decide +kernel
theorem dX11_till_14 : decode cX11_till 14 = .ok (.ifnull 8, 3) := by decide +kernel
theorem dX11_till_17 : decode cX11_till 17 = .ok (.aload 4, 2) := by decide +kernel
theorem dX11_till_19 : decode cX11_till 19 = .ok (.ifnonnull 7, 3) := by decide +kernel
theorem dX11_till_22 : decode cX11_till 22 = .ok (.iconst (-1), 1) := by decide +kernel
theorem dX11_till_23 : decode cX11_till 23 = .ok (.goto 18, 3) := by decide +kernel
theorem dX11_till_26 : decode cX11_till 26 = .ok (.aload_n 0, 1) := by decide +kernel
theorem dX11_till_27 : decode cX11_till 27 = .ok (.getfield 34, 3) := by decide +kernel
theorem dX11_till_30 : decode cX11_till 30 = .ok (.aload_n 3, 1) := by decide +kernel
theorem dX11_till_31 : decode cX11_till 31 = .ok (.aload 4, 2) := by decide +kernel
theorem dX11_till_33 : decode cX11_till 33 = .ok (.aload 4, 2) := by decide +kernel
theorem dX11_till_35 : decode cX11_till 35 = .ok (.getfield 108, 3) := by decide +kernel
theorem dX11_till_38 : decode cX11_till 38 = .ok (.invokevirtual 111, 3) := by decide +kernel
theorem dX11_till_41 : decode cX11_till 41 = .ok (.ireturn, 1) := by decide +kernel
theorem dX11_state_0 : decode cX11_state 0 = .ok (.aload_n 0, 1) := by decide +kernel
theorem dX11_state_1 : decode cX11_state 1 = .ok (.iload_n 1, 1) := by decide +kernel
theorem dX11_state_2 : decode cX11_state 2 = .ok (.invokevirtual 90, 3) := by decide +kernel
theorem dX11_state_5 : decode cX11_state 5 = .ok (.astore 5, 2) := by decide +kernel
theorem dX11_state_7 : decode cX11_state 7 = .ok (.aload_n 0, 1) := by decide +kernel
theorem dX11_state_8 : decode cX11_state 8 = .ok (.iload_n 2, 1) := by decide +kernel
theorem dX11_state_9 : decode cX11_state 9 = .ok (.invokevirtual 100, 3) := by decide +kernel
theorem dX11_state_12 : decode cX11_state 12 = .ok (.astore 6, 2) := by decide +kernel
theorem dX11_state_14 : decode cX11_state 14 = .ok (.aload 5, 2) := by decide +kernel
theorem dX11_state_16 : decode cX11_state 16 = .ok (.ifnull 21, 3) := by decide +kernel
theorem dX11_state_19 : decode cX11_state 19 = .ok (.aload 6, 2) := by decide +kernel
theorem dX11_state_21 : decode cX11_state 21 = .ok (.ifnull 16, 3) := by decide +kernel
theorem dX11_state_24 : decode cX11_state 24 = .ok (.iload_n 3, 1) := by decide +kernel
theorem dX11_state_25 : decode cX11_state 25 = .ok (.ifCond .lt 12, 3) := by decide +kernel
theorem dX11_state_28 : decode cX11_state 28 = .ok (.iload_n 3, 1) := by decide +kernel
theorem dX11_state_29 : decode cX11_state 29 = .ok (.aload 6, 2) := by decide +kernel
theorem dX11_state_31 : decode cX11_state 31 = .ok (.getfield 108, 3) := by decide +kernel
theorem dX11_state_34 : decode cX11_state 34 = .ok (.if_icmp .le 6, 3) := by decide +kernel
theorem dX11_state_37 : decode cX11_state 37 = .ok (.bipush (-2), 2) := by decide +kernel
theorem dX11_state_39 : decode cX11_state 39 = .ok (.ireturn, 1) := by decide +kernel
theorem dX11_state_40 : decode cX11_state 40 = .ok (.aload_n 0, 1) := by decide +kernel
theorem dX11_state_41 : decode cX11_state 41 = .ok (.getfield 34, 3) := by decide +kernel
theorem dX11_state_44 : decode cX11_state 44 = .ok (.aload 5, 2) := by decide +kernel
theorem dX11_state_46 : decode cX11_state 46 = .ok (.aload 6, 2) := by decide +kernel
theorem dX11_state_48 : decode cX11_state 48 = .ok (.iload_n 3, 1) := by decide +kernel
theorem dX11_state_49 : decode cX11_state 49 = .ok (.invokevirtual 111, 3) := by decide +kernel
theorem dX11_state_52 : decode cX11_state 52 = .ok (.iload_n 3, 1) := by decide +kernel
theorem dX11_state_53 : decode cX11_state 53 = .ok (.if_icmp .ge 8, 3) := by decide +kernel
theorem dX11_state_56 : decode cX11_state 56 = .ok (.bipush (-2), 2) := by decide +kernel
theorem dX11_state_58 : decode cX11_state 58 = .ok (.goto 12, 3) := by decide +kernel
theorem dX11_state_61 : decode cX11_state 61 = .ok (.aload_n 0, 1) := by decide +kernel
theorem dX11_state_62 : decode cX11_state 62 = .ok (.getfield 34, 3) := by decide +kernel
theorem dX11_state_65 : decode cX11_state 65 = .ok (.iload 4, 2) := by decide +kernel
theorem dX11_state_67 : decode cX11_state 67 = .ok (.invokevirtual 115, 3) := by decide +kernel
theorem dX11_state_70 : decode cX11_state 70 = .ok (.ireturn, 1) := by decide +kernel
theorem dX11_mend_0 : decode cX11_mend 0 = .ok (.aload_n 0, 1) := by decide +kernel
theorem dX11_mend_1 : decode cX11_mend 1 = .ok (.iload_n 1, 1) := by decide +kernel
theorem dX11_mend_2 : decode cX11_mend 2 = .ok (.invokevirtual 90, 3) := by decide +kernel
theorem dX11_mend_5 : decode cX11_mend 5 = .ok (.astore_n 3, 1) := by decide +kernel
theorem dX11_mend_6 : decode cX11_mend 6 = .ok (.aload_n 3, 1) := by decide +kernel
theorem dX11_mend_7 : decode cX11_mend 7 = .ok (.ifnull 11, 3) := by decide +kernel
theorem dX11_mend_10 : decode cX11_mend 10 = .ok (.aload_n 3, 1) := by decide +kernel
theorem dX11_mend_11 : decode cX11_mend 11 = .ok (.iload_n 2, 1) := by decide +kernel
theorem dX11_mend_12 : decode cX11_mend 12 = .ok (.invokevirtual 116, 3) := by decide +kernel
theorem dX11_mend_15 : decode cX11_mend 15 = .ok (.ifCond .ne 7, 3) := by decide +kernel
theorem dX11_mend_18 : decode cX11_mend 18 = .ok (.iconst (-1), 1) := by decide +kernel
theorem dX11_mend_19 : decode cX11_mend 19 = .ok (.goto 8, 3) := by decide +kernel
theorem dX11_mend_22 : decode cX11_mend 22 = .ok (.aload_n 3, 1) := by decide +kernel
theorem dX11_mend_23 : decode cX11_mend 23 = .ok (.iload_n 2, 1) := by decide +kernel
theorem dX11_mend_24 : decode cX11_mend 24 = .ok (.invokestatic 120, 3) := by decide +kernel
theorem dX11_mend_27 : decode cX11_mend 27 = .ok (.ireturn, 1) := by decide +kernel
theorem dX11_quiet_0 : decode cX11_quiet 0 = .ok (.aload_n 0, 1) := by decide +kernel
theorem dX11_quiet_1 : decode cX11_quiet 1 = .ok (.iload_n 1, 1) := by decide +kernel
theorem dX11_quiet_2 : decode cX11_quiet 2 = .ok (.invokevirtual 90, 3) := by decide +kernel
theorem dX11_quiet_5 : decode cX11_quiet 5 = .ok (.astore_n 3, 1) := by decide +kernel
theorem dX11_quiet_6 : decode cX11_quiet 6 = .ok (.aload_n 3, 1) := by decide +kernel
theorem dX11_quiet_7 : decode cX11_quiet 7 = .ok (.ifnonnull 6, 3) := by decide +kernel
theorem dX11_quiet_10 : decode cX11_quiet 10 = .ok (.bipush (-2), 2) := by decide +kernel
theorem dX11_quiet_12 : decode cX11_quiet 12 = .ok (.ireturn, 1) := by decide +kernel
theorem dX11_quiet_13 : decode cX11_quiet 13 = .ok (.iload_n 2, 1) := by decide +kernel
theorem dX11_quiet_14 : decode cX11_quiet 14 = .ok (.ifCond .eq 14, 3) := by decide +kernel
theorem dX11_quiet_17 : decode cX11_quiet 17 = .ok (.aload_n 0, 1) := by decide +kernel
theorem dX11_quiet_18 : decode cX11_quiet 18 = .ok (.getfield 55, 3) := by decide +kernel
theorem dX11_quiet_21 : decode cX11_quiet 21 = .ok (.aload_n 3, 1) := by decide +kernel
theorem dX11_quiet_22 : decode cX11_quiet 22 = .ok (.invokevirtual 124, 3) := by decide +kernel
theorem dX11_quiet_25 : decode cX11_quiet 25 = .ok (.goto 11, 3) := by decide +kernel
theorem dX11_quiet_28 : decode cX11_quiet 28 = .ok (.aload_n 0, 1) := by decide +kernel
theorem dX11_quiet_29 : decode cX11_quiet 29 = .ok (.getfield 55, 3) := by decide +kernel
theorem dX11_quiet_32 : decode cX11_quiet 32 = .ok (.aload_n 3, 1) := by decide +kernel
theorem dX11_quiet_33 : decode cX11_quiet 33 = .ok (.invokevirtual 128, 3) := by decide +kernel
theorem dX11_quiet_36 : decode cX11_quiet 36 = .ok (.ireturn, 1) := by decide +kernel
theorem dX11_asking_0 : decode cX11_asking 0 = .ok (.aload_n 0, 1) := by decide +kernel
theorem dX11_asking_1 : decode cX11_asking 1 = .ok (.iload_n 1, 1) := by decide +kernel
theorem dX11_asking_2 : decode cX11_asking 2 = .ok (.invokevirtual 90, 3) := by decide +kernel
theorem dX11_asking_5 : decode cX11_asking 5 = .ok (.astore_n 3, 1) := by decide +kernel
theorem dX11_asking_6 : decode cX11_asking 6 = .ok (.aload_n 3, 1) := by decide +kernel
theorem dX11_asking_7 : decode cX11_asking 7 = .ok (.ifnull 10, 3) := by decide +kernel
theorem dX11_asking_10 : decode cX11_asking 10 = .ok (.aload_n 3, 1) := by decide +kernel
theorem dX11_asking_11 : decode cX11_asking 11 = .ok (.getfield 131, 3) := by decide +kernel
theorem dX11_asking_14 : decode cX11_asking 14 = .ok (.ifCond .ne 5, 3) := by decide +kernel
theorem dX11_asking_17 : decode cX11_asking 17 = .ok (.iconst (-1), 1) := by decide +kernel
theorem dX11_asking_18 : decode cX11_asking 18 = .ok (.ireturn, 1) := by decide +kernel
theorem dX11_asking_19 : decode cX11_asking 19 = .ok (.iload_n 2, 1) := by decide +kernel
theorem dX11_asking_20 : decode cX11_asking 20 = .ok (.iconst 2, 1) := by decide +kernel
theorem dX11_asking_21 : decode cX11_asking 21 = .ok (.if_icmp .ne 11, 3) := by decide +kernel
theorem dX11_asking_24 : decode cX11_asking 24 = .ok (.aload_n 3, 1) := by decide +kernel
theorem dX11_asking_25 : decode cX11_asking 25 = .ok (.getfield 131, 3) := by decide +kernel
theorem dX11_asking_28 : decode cX11_asking 28 = .ok (.invokestatic 134, 3) := by decide +kernel
theorem dX11_asking_31 : decode cX11_asking 31 = .ok (.ireturn, 1) := by decide +kernel
theorem dX11_asking_32 : decode cX11_asking 32 = .ok (.iload_n 2, 1) := by decide +kernel
theorem dX11_asking_33 : decode cX11_asking 33 = .ok (.ifCond .eq 8, 3) := by decide +kernel
theorem dX11_asking_36 : decode cX11_asking 36 = .ok (.iload_n 2, 1) := by decide +kernel
theorem dX11_asking_37 : decode cX11_asking 37 = .ok (.iconst 1, 1) := by decide +kernel
theorem dX11_asking_38 : decode cX11_asking 38 = .ok (.if_icmp .ne 24, 3) := by decide +kernel
theorem dX11_asking_41 : decode cX11_asking 41 = .ok (.aload_n 0, 1) := by decide +kernel
theorem dX11_asking_42 : decode cX11_asking 42 = .ok (.getfield 48, 3) := by decide +kernel
theorem dX11_asking_45 : decode cX11_asking 45 = .ok (.aload_n 3, 1) := by decide +kernel
theorem dX11_asking_46 : decode cX11_asking 46 = .ok (.iload_n 2, 1) := by decide +kernel
theorem dX11_asking_47 : decode cX11_asking 47 = .ok (.iconst 1, 1) := by decide +kernel
theorem dX11_asking_48 : decode cX11_asking 48 = .ok (.if_icmp .ne 7, 3) := by decide +kernel
theorem dX11_asking_51 : decode cX11_asking 51 = .ok (.iconst 1, 1) := by decide +kernel
theorem dX11_asking_52 : decode cX11_asking 52 = .ok (.goto 4, 3) := by decide +kernel
theorem dX11_asking_55 : decode cX11_asking 55 = .ok (.iconst 0, 1) := by decide +kernel
theorem dX11_asking_56 : decode cX11_asking 56 = .ok (.invokevirtual 137, 3) := by decide +kernel
theorem dX11_asking_59 : decode cX11_asking 59 = .ok (.goto 4, 3) := by decide +kernel
theorem dX11_asking_62 : decode cX11_asking 62 = .ok (.iconst (-1), 1) := by decide +kernel
theorem dX11_asking_63 : decode cX11_asking 63 = .ok (.ireturn, 1) := by decide +kernel
theorem dX11_confess_0 : decode cX11_confess 0 = .ok (.aload_n 0, 1) := by decide +kernel
theorem dX11_confess_1 : decode cX11_confess 1 = .ok (.iload_n 1, 1) := by decide +kernel
theorem dX11_confess_2 : decode cX11_confess 2 = .ok (.invokevirtual 90, 3) := by decide +kernel
theorem dX11_confess_5 : decode cX11_confess 5 = .ok (.astore_n 3, 1) := by decide +kernel
theorem dX11_confess_6 : decode cX11_confess 6 = .ok (.aload_n 3, 1) := by decide +kernel
theorem dX11_confess_7 : decode cX11_confess 7 = .ok (.ifnonnull 5, 3) := by decide +kernel
theorem dX11_confess_10 : decode cX11_confess 10 = .ok (.iconst (-1), 1) := by decide +kernel
theorem dX11_confess_11 : decode cX11_confess 11 = .ok (.ireturn, 1) := by decide +kernel
theorem dX11_confess_12 : decode cX11_confess 12 = .ok (.aload_n 3, 1) := by decide +kernel
theorem dX11_confess_13 : decode cX11_confess 13 = .ok (.invokestatic 141, 3) := by decide +kernel
theorem dX11_confess_16 : decode cX11_confess 16 = .ok (.istore 4, 2) := by decide +kernel
theorem dX11_confess_18 : decode cX11_confess 18 = .ok (.iload 4, 2) := by decide +kernel
theorem dX11_confess_20 : decode cX11_confess 20 = .ok (.ifCond .lt 7, 3) := by decide +kernel
theorem dX11_confess_23 : decode cX11_confess 23 = .ok (.iload_n 2, 1) := by decide +kernel
theorem dX11_confess_24 : decode cX11_confess 24 = .ok (.ifCond .eq 8, 3) := by decide +kernel
theorem dX11_confess_27 : decode cX11_confess 27 = .ok (.iload 4, 2) := by decide +kernel
theorem dX11_confess_29 : decode cX11_confess 29 = .ok (.goto 9, 3) := by decide +kernel
theorem dX11_confess_32 : decode cX11_confess 32 = .ok (.aload_n 3, 1) := by decide +kernel
theorem dX11_confess_33 : decode cX11_confess 33 = .ok (.iload 4, 2) := by decide +kernel
theorem dX11_confess_35 : decode cX11_confess 35 = .ok (.invokestatic 146, 3) := by decide +kernel
theorem dX11_confess_38 : decode cX11_confess 38 = .ok (.ireturn, 1) := by decide +kernel
theorem dX11_route_0 : decode cX11_route 0 = .ok (.aload_n 0, 1) := by decide +kernel
theorem dX11_route_1 : decode cX11_route 1 = .ok (.iload_n 1, 1) := by decide +kernel
theorem dX11_route_2 : decode cX11_route 2 = .ok (.invokevirtual 90, 3) := by decide +kernel
theorem dX11_route_5 : decode cX11_route 5 = .ok (.astore_n 3, 1) := by decide +kernel
theorem dX11_route_6 : decode cX11_route 6 = .ok (.aload_n 3, 1) := by decide +kernel
theorem dX11_route_7 : decode cX11_route 7 = .ok (.ifnonnull 6, 3) := by decide +kernel
theorem dX11_route_10 : decode cX11_route 10 = .ok (.bipush (-2), 2) := by decide +kernel
theorem dX11_route_12 : decode cX11_route 12 = .ok (.ireturn, 1) := by decide +kernel
theorem dX11_route_13 : decode cX11_route 13 = .ok (.aload_n 0, 1) := by decide +kernel
theorem dX11_route_14 : decode cX11_route 14 = .ok (.getfield 41, 3) := by decide +kernel
theorem dX11_route_17 : decode cX11_route 17 = .ok (.aload_n 3, 1) := by decide +kernel
theorem dX11_route_18 : decode cX11_route 18 = .ok (.iconst 0, 1) := by decide +kernel
theorem dX11_route_19 : decode cX11_route 19 = .ok (.invokevirtual 149, 3) := by decide +kernel
theorem dX11_route_22 : decode cX11_route 22 = .ok (.iload_n 2, 1) := by decide +kernel
theorem dX11_route_23 : decode cX11_route 23 = .ok (.ifCond .ne 11, 3) := by decide +kernel
theorem dX11_route_26 : decode cX11_route 26 = .ok (.aload_n 0, 1) := by decide +kernel
theorem dX11_route_27 : decode cX11_route 27 = .ok (.getfield 41, 3) := by decide +kernel
theorem dX11_route_30 : decode cX11_route 30 = .ok (.getfield 153, 3) := by decide +kernel
theorem dX11_route_33 : decode cX11_route 33 = .ok (.ireturn, 1) := by decide +kernel
theorem dX11_route_34 : decode cX11_route 34 = .ok (.iload_n 2, 1) := by decide +kernel
theorem dX11_route_35 : decode cX11_route 35 = .ok (.iconst 1, 1) := by decide +kernel
theorem dX11_route_36 : decode cX11_route 36 = .ok (.if_icmp .ne 13, 3) := by decide +kernel
theorem dX11_route_39 : decode cX11_route 39 = .ok (.aload_n 0, 1) := by decide +kernel
theorem dX11_route_40 : decode cX11_route 40 = .ok (.getfield 41, 3) := by decide +kernel
theorem dX11_route_43 : decode cX11_route 43 = .ok (.getfield 156, 3) := by decide +kernel
theorem dX11_route_46 : decode cX11_route 46 = .ok (.goto 26, 3) := by decide +kernel
theorem dX11_route_49 : decode cX11_route 49 = .ok (.aload_n 0, 1) := by decide +kernel
theorem dX11_route_50 : decode cX11_route 50 = .ok (.getfield 41, 3) := by decide +kernel
theorem dX11_route_53 : decode cX11_route 53 = .ok (.iload_n 2, 1) := by decide +kernel
theorem dX11_route_54 : decode cX11_route 54 = .ok (.bipush 10, 2) := by decide +kernel
theorem dX11_route_56 : decode cX11_route 56 = .ok (.if_icmp .ge 7, 3) := by decide +kernel
theorem dX11_route_59 : decode cX11_route 59 = .ok (.iconst (-1), 1) := by decide +kernel
theorem dX11_route_60 : decode cX11_route 60 = .ok (.goto 7, 3) := by decide +kernel
theorem dX11_route_63 : decode cX11_route 63 = .ok (.iload_n 2, 1) := by decide +kernel
theorem dX11_route_64 : decode cX11_route 64 = .ok (.bipush 10, 2) := by decide +kernel
theorem dX11_route_66 : decode cX11_route 66 = .ok (.isub, 1) := by decide +kernel
theorem dX11_route_67 : decode cX11_route 67 = .ok (.bipush (-2), 2) := by decide +kernel
theorem dX11_route_69 : decode cX11_route 69 = .ok (.invokevirtual 157, 3) := by decide +kernel
theorem dX11_route_72 : decode cX11_route 72 = .ok (.ireturn, 1) := by decide +kernel
theorem dX11_byTurns_0 : decode cX11_byTurns 0 = .ok (.aload_n 0, 1) := by decide +kernel
theorem dX11_byTurns_1 : decode cX11_byTurns 1 = .ok (.iload_n 1, 1) := by decide +kernel
theorem dX11_byTurns_2 : decode cX11_byTurns 2 = .ok (.invokevirtual 90, 3) := by decide +kernel
theorem dX11_byTurns_5 : decode cX11_byTurns 5 = .ok (.astore 4, 2) := by decide +kernel
theorem dX11_byTurns_7 : decode cX11_byTurns 7 = .ok (.aload 4, 2) := by decide +kernel
theorem dX11_byTurns_9 : decode cX11_byTurns 9 = .ok (.ifnull 12, 3) := by decide +kernel
theorem dX11_byTurns_12 : decode cX11_byTurns 12 = .ok (.iload_n 2, 1) := by decide +kernel
theorem dX11_byTurns_13 : decode cX11_byTurns 13 = .ok (.ifCond .lt 8, 3) := by decide +kernel
theorem dX11_byTurns_16 : decode cX11_byTurns 16 = .ok (.iload_n 2, 1) := by decide +kernel
theorem dX11_byTurns_17 : decode cX11_byTurns 17 = .ok (.iconst 4, 1) := by decide +kernel
theorem dX11_byTurns_18 : decode cX11_byTurns 18 = .ok (.if_icmp .le 6, 3) := by decide +kernel
theorem dX11_byTurns_21 : decode cX11_byTurns 21 = .ok (.bipush (-9), 2) := by decide +kernel
theorem dX11_byTurns_23 : decode cX11_byTurns 23 = .ok (.ireturn, 1) := by decide +kernel
theorem dX11_byTurns_24 : decode cX11_byTurns 24 = .ok (.iload_n 3, 1) := by decide +kernel
theorem dX11_byTurns_25 : decode cX11_byTurns 25 = .ok (.ifCond .eq 12, 3) := by decide +kernel
theorem dX11_byTurns_28 : decode cX11_byTurns 28 = .ok (.aload 4, 2) := by decide +kernel
theorem dX11_byTurns_30 : decode cX11_byTurns 30 = .ok (.iload_n 2, 1) := by decide +kernel
theorem dX11_byTurns_31 : decode cX11_byTurns 31 = .ok (.invokestatic 160, 3) := by decide +kernel
theorem dX11_byTurns_34 : decode cX11_byTurns 34 = .ok (.goto 9, 3) := by decide +kernel
theorem dX11_byTurns_37 : decode cX11_byTurns 37 = .ok (.aload 4, 2) := by decide +kernel
theorem dX11_byTurns_39 : decode cX11_byTurns 39 = .ok (.iload_n 2, 1) := by decide +kernel
theorem dX11_byTurns_40 : decode cX11_byTurns 40 = .ok (.invokestatic 163, 3) := by decide +kernel
theorem dX11_byTurns_43 : decode cX11_byTurns 43 = .ok (.ireturn, 1) := by decide +kernel
theorem dX11_log_0 : decode cX11_log 0 = .ok (.aload_n 0, 1) := by decide +kernel
theorem dX11_log_1 : decode cX11_log 1 = .ok (.iload_n 1, 1) := by decide +kernel
theorem dX11_log_2 : decode cX11_log 2 = .ok (.invokevirtual 166, 3) := by decide +kernel
theorem dX11_log_5 : decode cX11_log 5 = .ok (.astore_n 3, 1) := by decide +kernel
theorem dX11_log_6 : decode cX11_log 6 = .ok (.aload_n 3, 1) := by decide +kernel
theorem dX11_log_7 : decode cX11_log 7 = .ok (.ifnonnull 7, 3) := by decide +kernel
theorem dX11_log_10 : decode cX11_log 10 = .ok (.iconst (-1), 1) := by decide +kernel
theorem dX11_log_11 : decode cX11_log 11 = .ok (.goto 8, 3) := by decide +kernel
theorem dX11_log_14 : decode cX11_log 14 = .ok (.aload_n 3, 1) := by decide +kernel
theorem dX11_log_15 : decode cX11_log 15 = .ok (.iload_n 2, 1) := by decide +kernel
theorem dX11_log_16 : decode cX11_log 16 = .ok (.invokevirtual 170, 3) := by decide +kernel
theorem dX11_log_19 : decode cX11_log 19 = .ok (.ireturn, 1) := by decide +kernel
theorem dX11_fits_0 : decode cX11_fits 0 = .ok (.aload_n 0, 1) := by decide +kernel
theorem dX11_fits_1 : decode cX11_fits 1 = .ok (.iload_n 1, 1) := by decide +kernel
theorem dX11_fits_2 : decode cX11_fits 2 = .ok (.invokevirtual 166, 3) := by decide +kernel
theorem dX11_fits_5 : decode cX11_fits 5 = .ok (.astore_n 3, 1) := by decide +kernel
theorem dX11_fits_6 : decode cX11_fits 6 = .ok (.aload_n 3, 1) := by decide +kernel
theorem dX11_fits_7 : decode cX11_fits 7 = .ok (.ifnull 7, 3) := by decide +kernel
theorem dX11_fits_10 : decode cX11_fits 10 = .ok (.iload_n 2, 1) := by decide +kernel
theorem dX11_fits_11 : decode cX11_fits 11 = .ok (.ifCond .ge 6, 3) := by decide +kernel
theorem dX11_fits_14 : decode cX11_fits 14 = .ok (.bipush (-2), 2) := by decide +kernel
theorem dX11_fits_16 : decode cX11_fits 16 = .ok (.ireturn, 1) := by decide +kernel
theorem dX11_fits_17 : decode cX11_fits 17 = .ok (.aload_n 3, 1) := by decide +kernel
theorem dX11_fits_18 : decode cX11_fits 18 = .ok (.invokevirtual 173, 3) := by decide +kernel
theorem dX11_fits_21 : decode cX11_fits 21 = .ok (.lstore 4, 2) := by decide +kernel
theorem dX11_fits_23 : decode cX11_fits 23 = .ok (.iload_n 2, 1) := by decide +kernel
theorem dX11_fits_24 : decode cX11_fits 24 = .ok (.ifCond .ne 9, 3) := by decide +kernel
theorem dX11_fits_27 : decode cX11_fits 27 = .ok (.lload 4, 2) := by decide +kernel
theorem dX11_fits_29 : decode cX11_fits 29 = .ok (.invokestatic 177, 3) := by decide +kernel
theorem dX11_fits_32 : decode cX11_fits 32 = .ok (.ireturn, 1) := by decide +kernel
theorem dX11_fits_33 : decode cX11_fits 33 = .ok (.iload_n 2, 1) := by decide +kernel
theorem dX11_fits_34 : decode cX11_fits 34 = .ok (.iconst 1, 1) := by decide +kernel
theorem dX11_fits_35 : decode cX11_fits 35 = .ok (.if_icmp .ne 9, 3) := by decide +kernel
theorem dX11_fits_38 : decode cX11_fits 38 = .ok (.lload 4, 2) := by decide +kernel
theorem dX11_fits_40 : decode cX11_fits 40 = .ok (.invokestatic 183, 3) := by decide +kernel
theorem dX11_fits_43 : decode cX11_fits 43 = .ok (.ireturn, 1) := by decide +kernel
theorem dX11_fits_44 : decode cX11_fits 44 = .ok (.iload_n 2, 1) := by decide +kernel
theorem dX11_fits_45 : decode cX11_fits 45 = .ok (.bipush 8, 2) := by decide +kernel
theorem dX11_fits_47 : decode cX11_fits 47 = .ok (.if_icmp .ge 12, 3) := by decide +kernel
theorem dX11_fits_50 : decode cX11_fits 50 = .ok (.lload 4, 2) := by decide +kernel
theorem dX11_fits_52 : decode cX11_fits 52 = .ok (.iload_n 2, 1) := by decide +kernel
theorem dX11_fits_53 : decode cX11_fits 53 = .ok (.iconst 2, 1) := by decide +kernel
theorem dX11_fits_54 : decode cX11_fits 54 = .ok (.isub, 1) := by decide +kernel
theorem dX11_fits_55 : decode cX11_fits 55 = .ok (.invokestatic 186, 3) := by decide +kernel
theorem dX11_fits_58 : decode cX11_fits 58 = .ok (.ireturn, 1) := by decide +kernel
theorem dX11_fits_59 : decode cX11_fits 59 = .ok (.iload_n 2, 1) := by decide +kernel
theorem dX11_fits_60 : decode cX11_fits 60 = .ok (.bipush 10, 2) := by decide +kernel
theorem dX11_fits_62 : decode cX11_fits 62 = .ok (.if_icmp .ge 8, 3) := by decide +kernel
theorem dX11_fits_65 : decode cX11_fits 65 = .ok (.bipush (-2), 2) := by decide +kernel
theorem dX11_fits_67 : decode cX11_fits 67 = .ok (.goto 12, 3) := by decide +kernel
theorem dX11_fits_70 : decode cX11_fits 70 = .ok (.lload 4, 2) := by decide +kernel
theorem dX11_fits_72 : decode cX11_fits 72 = .ok (.iload_n 2, 1) := by decide +kernel
theorem dX11_fits_73 : decode cX11_fits 73 = .ok (.bipush 10, 2) := by decide +kernel
theorem dX11_fits_75 : decode cX11_fits 75 = .ok (.isub, 1) := by decide +kernel
theorem dX11_fits_76 : decode cX11_fits 76 = .ok (.invokestatic 190, 3) := by decide +kernel
theorem dX11_fits_79 : decode cX11_fits 79 = .ok (.ireturn, 1) := by decide +kernel
theorem dX11_drawn_0 : decode cX11_drawn 0 = .ok (.aload_n 0, 1) := by decide +kernel
theorem dX11_drawn_1 : decode cX11_drawn 1 = .ok (.iload_n 1, 1) := by decide +kernel
theorem dX11_drawn_2 : decode cX11_drawn 2 = .ok (.invokevirtual 90, 3) := by decide +kernel
theorem dX11_drawn_5 : decode cX11_drawn 5 = .ok (.astore 5, 2) := by decide +kernel
theorem dX11_drawn_7 : decode cX11_drawn 7 = .ok (.aload 5, 2) := by decide +kernel
theorem dX11_drawn_9 : decode cX11_drawn 9 = .ok (.ifnull 13, 3) := by decide +kernel
theorem dX11_drawn_12 : decode cX11_drawn 12 = .ok (.iload_n 3, 1) := by decide +kernel
theorem dX11_drawn_13 : decode cX11_drawn 13 = .ok (.ifCond .lt 9, 3) := by decide +kernel
theorem dX11_drawn_16 : decode cX11_drawn 16 = .ok (.iload_n 3, 1) := by decide +kernel
theorem dX11_drawn_17 : decode cX11_drawn 17 = .ok (.bipush 60, 2) := by decide +kernel
theorem dX11_drawn_19 : decode cX11_drawn 19 = .ok (.if_icmp .le 6, 3) := by decide +kernel
theorem dX11_drawn_22 : decode cX11_drawn 22 = .ok (.bipush (-2), 2) := by decide +kernel
theorem dX11_drawn_24 : decode cX11_drawn 24 = .ok (.ireturn, 1) := by decide +kernel
theorem dX11_drawn_25 : decode cX11_drawn 25 = .ok (.aload_n 0, 1) := by decide +kernel
theorem dX11_drawn_26 : decode cX11_drawn 26 = .ok (.getfield 34, 3) := by decide +kernel
theorem dX11_drawn_29 : decode cX11_drawn 29 = .ok (.aload 5, 2) := by decide +kernel
theorem dX11_drawn_31 : decode cX11_drawn 31 = .ok (.iload_n 2, 1) := by decide +kernel
theorem dX11_drawn_32 : decode cX11_drawn 32 = .ok (.iload_n 3, 1) := by decide +kernel
theorem dX11_drawn_33 : decode cX11_drawn 33 = .ok (.invokevirtual 193, 3) := by decide +kernel
theorem dX11_drawn_36 : decode cX11_drawn 36 = .ok (.aload_n 0, 1) := by decide +kernel
theorem dX11_drawn_37 : decode cX11_drawn 37 = .ok (.getfield 34, 3) := by decide +kernel
theorem dX11_drawn_40 : decode cX11_drawn 40 = .ok (.iload 4, 2) := by decide +kernel
theorem dX11_drawn_42 : decode cX11_drawn 42 = .ok (.invokevirtual 115, 3) := by decide +kernel
theorem dX11_drawn_45 : decode cX11_drawn 45 = .ok (.ireturn, 1) := by decide +kernel
theorem dX11_upright_0 : decode cX11_upright 0 = .ok (.aload_n 0, 1) := by decide +kernel
theorem dX11_upright_1 : decode cX11_upright 1 = .ok (.iload_n 1, 1) := by decide +kernel
theorem dX11_upright_2 : decode cX11_upright 2 = .ok (.invokevirtual 90, 3) := by decide +kernel
theorem dX11_upright_5 : decode cX11_upright 5 = .ok (.astore_n 3, 1) := by decide +kernel
theorem dX11_upright_6 : decode cX11_upright 6 = .ok (.aload_n 3, 1) := by decide +kernel
theorem dX11_upright_7 : decode cX11_upright 7 = .ok (.ifnonnull 6, 3) := by decide +kernel
theorem dX11_upright_10 : decode cX11_upright 10 = .ok (.bipush (-2), 2) := by decide +kernel
theorem dX11_upright_12 : decode cX11_upright 12 = .ok (.ireturn, 1) := by decide +kernel
theorem dX11_upright_13 : decode cX11_upright 13 = .ok (.iload_n 2, 1) := by decide +kernel
theorem dX11_upright_14 : decode cX11_upright 14 = .ok (.tableswitch 123 0 9 #[54, 59, 64, 69, 74, 79, 88, 93, 98, 103], 54) := by decide +kernel
theorem dX11_upright_68 : decode cX11_upright 68 = .ok (.aload_n 3, 1) := by decide +kernel
theorem dX11_upright_69 : decode cX11_upright 69 = .ok (.invokestatic 197, 3) := by decide +kernel
theorem dX11_upright_72 : decode cX11_upright 72 = .ok (.ireturn, 1) := by decide +kernel
theorem dX11_upright_73 : decode cX11_upright 73 = .ok (.aload_n 3, 1) := by decide +kernel
theorem dX11_upright_74 : decode cX11_upright 74 = .ok (.invokestatic 200, 3) := by decide +kernel
theorem dX11_upright_77 : decode cX11_upright 77 = .ok (.ireturn, 1) := by decide +kernel
theorem dX11_upright_78 : decode cX11_upright 78 = .ok (.aload_n 3, 1) := by decide +kernel
theorem dX11_upright_79 : decode cX11_upright 79 = .ok (.invokestatic 203, 3) := by decide +kernel
theorem dX11_upright_82 : decode cX11_upright 82 = .ok (.ireturn, 1) := by decide +kernel
theorem dX11_upright_83 : decode cX11_upright 83 = .ok (.aload_n 3, 1) := by decide +kernel
theorem dX11_upright_84 : decode cX11_upright 84 = .ok (.invokevirtual 206, 3) := by decide +kernel
theorem dX11_upright_87 : decode cX11_upright 87 = .ok (.ireturn, 1) := by decide +kernel
theorem dX11_upright_88 : decode cX11_upright 88 = .ok (.aload_n 3, 1) := by decide +kernel
theorem dX11_upright_89 : decode cX11_upright 89 = .ok (.invokevirtual 210, 3) := by decide +kernel
theorem dX11_upright_92 : decode cX11_upright 92 = .ok (.ireturn, 1) := by decide +kernel
theorem dX11_upright_93 : decode cX11_upright 93 = .ok (.aload_n 0, 1) := by decide +kernel
theorem dX11_upright_94 : decode cX11_upright 94 = .ok (.getfield 48, 3) := by decide +kernel
theorem dX11_upright_97 : decode cX11_upright 97 = .ok (.aload_n 3, 1) := by decide +kernel
theorem dX11_upright_98 : decode cX11_upright 98 = .ok (.invokevirtual 213, 3) := by decide +kernel
theorem dX11_upright_101 : decode cX11_upright 101 = .ok (.ireturn, 1) := by decide +kernel
theorem dX11_upright_102 : decode cX11_upright 102 = .ok (.aload_n 3, 1) := by decide +kernel
theorem dX11_upright_103 : decode cX11_upright 103 = .ok (.invokestatic 216, 3) := by decide +kernel
theorem dX11_upright_106 : decode cX11_upright 106 = .ok (.ireturn, 1) := by decide +kernel
theorem dX11_upright_107 : decode cX11_upright 107 = .ok (.aload_n 3, 1) := by decide +kernel
theorem dX11_upright_108 : decode cX11_upright 108 = .ok (.invokestatic 219, 3) := by decide +kernel
theorem dX11_upright_111 : decode cX11_upright 111 = .ok (.ireturn, 1) := by decide +kernel
theorem dX11_upright_112 : decode cX11_upright 112 = .ok (.aload_n 3, 1) := by decide +kernel
theorem dX11_upright_113 : decode cX11_upright 113 = .ok (.invokevirtual 222, 3) := by decide +kernel
theorem dX11_upright_116 : decode cX11_upright 116 = .ok (.ireturn, 1) := by decide +kernel
theorem dX11_upright_117 : decode cX11_upright 117 = .ok (.aload_n 3, 1) := by decide +kernel
theorem dX11_upright_118 : decode cX11_upright 118 = .ok (.getfield 225, 3) := by decide +kernel
theorem dX11_upright_121 : decode cX11_upright 121 = .ok (.ifCond .ne 7, 3) := by decide +kernel
theorem dX11_upright_124 : decode cX11_upright 124 = .ok (.iconst 0, 1) := by decide +kernel
theorem dX11_upright_125 : decode cX11_upright 125 = .ok (.goto 11, 3) := by decide +kernel
theorem dX11_upright_128 : decode cX11_upright 128 = .ok (.aload_n 3, 1) := by decide +kernel
theorem dX11_upright_129 : decode cX11_upright 129 = .ok (.aload_n 3, 1) := by decide +kernel
theorem dX11_upright_130 : decode cX11_upright 130 = .ok (.invokevirtual 222, 3) := by decide +kernel
theorem dX11_upright_133 : decode cX11_upright 133 = .ok (.invokevirtual 228, 3) := by decide +kernel
theorem dX11_upright_136 : decode cX11_upright 136 = .ok (.ireturn, 1) := by decide +kernel
theorem dX11_upright_137 : decode cX11_upright 137 = .ok (.bipush (-2), 2) := by decide +kernel
theorem dX11_upright_139 : decode cX11_upright 139 = .ok (.ireturn, 1) := by decide +kernel
theorem dX11_share_0 : decode cX11_share 0 = .ok (.aload_n 0, 1) := by decide +kernel
theorem dX11_share_1 : decode cX11_share 1 = .ok (.iload_n 1, 1) := by decide +kernel
theorem dX11_share_2 : decode cX11_share 2 = .ok (.invokevirtual 90, 3) := by decide +kernel
theorem dX11_share_5 : decode cX11_share 5 = .ok (.astore 4, 2) := by decide +kernel
theorem dX11_share_7 : decode cX11_share 7 = .ok (.aload 4, 2) := by decide +kernel
theorem dX11_share_9 : decode cX11_share 9 = .ok (.ifnull 20, 3) := by decide +kernel
theorem dX11_share_12 : decode cX11_share 12 = .ok (.aload 4, 2) := by decide +kernel
theorem dX11_share_14 : decode cX11_share 14 = .ok (.iload_n 2, 1) := by decide +kernel
theorem dX11_share_15 : decode cX11_share 15 = .ok (.invokevirtual 116, 3) := by decide +kernel
theorem dX11_share_18 : decode cX11_share 18 = .ok (.ifCond .eq 11, 3) := by decide +kernel
theorem dX11_share_21 : decode cX11_share 21 = .ok (.aload 4, 2) := by decide +kernel
theorem dX11_share_23 : decode cX11_share 23 = .ok (.invokevirtual 231, 3) := by decide +kernel
theorem dX11_share_26 : decode cX11_share 26 = .ok (.ifCond .ne 5, 3) := by decide +kernel
theorem dX11_share_29 : decode cX11_share 29 = .ok (.iconst (-1), 1) := by decide +kernel
theorem dX11_share_30 : decode cX11_share 30 = .ok (.ireturn, 1) := by decide +kernel
theorem dX11_share_31 : decode cX11_share 31 = .ok (.aload 4, 2) := by decide +kernel
theorem dX11_share_33 : decode cX11_share 33 = .ok (.iload_n 2, 1) := by decide +kernel
theorem dX11_share_34 : decode cX11_share 34 = .ok (.invokevirtual 234, 3) := by decide +kernel
theorem dX11_share_37 : decode cX11_share 37 = .ok (.i2l, 1) := by decide +kernel
theorem dX11_share_38 : decode cX11_share 38 = .ok (.aload 4, 2) := by decide +kernel
theorem dX11_share_40 : decode cX11_share 40 = .ok (.invokevirtual 231, 3) := by decide +kernel
theorem dX11_share_43 : decode cX11_share 43 = .ok (.i2l, 1) := by decide +kernel
theorem dX11_share_44 : decode cX11_share 44 = .ok (.iload_n 3, 1) := by decide +kernel
theorem dX11_share_45 : decode cX11_share 45 = .ok (.invokestatic 237, 3) := by decide +kernel
theorem dX11_share_48 : decode cX11_share 48 = .ok (.l2i, 1) := by decide +kernel
theorem dX11_share_49 : decode cX11_share 49 = .ok (.ireturn, 1) := by decide +kernel
theorem dX11_walk_0 : decode cX11_walk 0 = .ok (.aload_n 0, 1) := by decide +kernel
theorem dX11_walk_1 : decode cX11_walk 1 = .ok (.iload_n 1, 1) := by decide +kernel
theorem dX11_walk_2 : decode cX11_walk 2 = .ok (.invokevirtual 90, 3) := by decide +kernel
theorem dX11_walk_5 : decode cX11_walk 5 = .ok (.astore 4, 2) := by decide +kernel
theorem dX11_walk_7 : decode cX11_walk 7 = .ok (.aload 4, 2) := by decide +kernel
theorem dX11_walk_9 : decode cX11_walk 9 = .ok (.ifnull 12, 3) := by decide +kernel
theorem dX11_walk_12 : decode cX11_walk 12 = .ok (.aload 4, 2) := by decide +kernel
theorem dX11_walk_14 : decode cX11_walk 14 = .ok (.iload_n 2, 1) := by decide +kernel
theorem dX11_walk_15 : decode cX11_walk 15 = .ok (.invokevirtual 116, 3) := by decide +kernel
theorem dX11_walk_18 : decode cX11_walk 18 = .ok (.ifCond .ne 5, 3) := by decide +kernel
theorem dX11_walk_21 : decode cX11_walk 21 = .ok (.iconst (-1), 1) := by decide +kernel
theorem dX11_walk_22 : decode cX11_walk 22 = .ok (.ireturn, 1) := by decide +kernel
theorem dX11_walk_23 : decode cX11_walk 23 = .ok (.aload 4, 2) := by decide +kernel
theorem dX11_walk_25 : decode cX11_walk 25 = .ok (.iload_n 2, 1) := by decide +kernel
theorem dX11_walk_26 : decode cX11_walk 26 = .ok (.invokestatic 243, 3) := by decide +kernel
theorem dX11_walk_29 : decode cX11_walk 29 = .ok (.istore 5, 2) := by decide +kernel
theorem dX11_walk_31 : decode cX11_walk 31 = .ok (.iload 5, 2) := by decide +kernel
theorem dX11_walk_33 : decode cX11_walk 33 = .ok (.ifCond .lt 7, 3) := by decide +kernel
theorem dX11_walk_36 : decode cX11_walk 36 = .ok (.iload_n 3, 1) := by decide +kernel
theorem dX11_walk_37 : decode cX11_walk 37 = .ok (.ifCond .eq 8, 3) := by decide +kernel
theorem dX11_walk_40 : decode cX11_walk 40 = .ok (.iload 5, 2) := by decide +kernel
theorem dX11_walk_42 : decode cX11_walk 42 = .ok (.goto 19, 3) := by decide +kernel
theorem dX11_walk_45 : decode cX11_walk 45 = .ok (.aload 4, 2) := by decide +kernel
theorem dX11_walk_47 : decode cX11_walk 47 = .ok (.iload_n 2, 1) := by decide +kernel
theorem dX11_walk_48 : decode cX11_walk 48 = .ok (.iload 5, 2) := by decide +kernel
theorem dX11_walk_50 : decode cX11_walk 50 = .ok (.bipush 10, 2) := by decide +kernel
theorem dX11_walk_52 : decode cX11_walk 52 = .ok (.idiv, 1) := by decide +kernel
theorem dX11_walk_53 : decode cX11_walk 53 = .ok (.iload 5, 2) := by decide +kernel
theorem dX11_walk_55 : decode cX11_walk 55 = .ok (.bipush 10, 2) := by decide +kernel
theorem dX11_walk_57 : decode cX11_walk 57 = .ok (.irem, 1) := by decide +kernel
theorem dX11_walk_58 : decode cX11_walk 58 = .ok (.invokevirtual 246, 3) := by decide +kernel
theorem dX11_walk_61 : decode cX11_walk 61 = .ok (.ireturn, 1) := by decide +kernel
theorem dX11_forget_0 : decode cX11_forget 0 = .ok (.aload_n 0, 1) := by decide +kernel
theorem dX11_forget_1 : decode cX11_forget 1 = .ok (.iload_n 1, 1) := by decide +kernel
theorem dX11_forget_2 : decode cX11_forget 2 = .ok (.invokevirtual 90, 3) := by decide +kernel
theorem dX11_forget_5 : decode cX11_forget 5 = .ok (.astore_n 3, 1) := by decide +kernel
theorem dX11_forget_6 : decode cX11_forget 6 = .ok (.aload_n 3, 1) := by decide +kernel
theorem dX11_forget_7 : decode cX11_forget 7 = .ok (.ifnonnull 5, 3) := by decide +kernel
theorem dX11_forget_10 : decode cX11_forget 10 = .ok (.iconst (-1), 1) := by decide +kernel
theorem dX11_forget_11 : decode cX11_forget 11 = .ok (.ireturn, 1) := by decide +kernel
theorem dX11_forget_12 : decode cX11_forget 12 = .ok (.aload_n 3, 1) := by decide +kernel
theorem dX11_forget_13 : decode cX11_forget 13 = .ok (.invokevirtual 250, 3) := by decide +kernel
theorem dX11_forget_16 : decode cX11_forget 16 = .ok (.istore 4, 2) := by decide +kernel
theorem dX11_forget_18 : decode cX11_forget 18 = .ok (.iload_n 2, 1) := by decide +kernel
theorem dX11_forget_19 : decode cX11_forget 19 = .ok (.ifCond .eq 8, 3) := by decide +kernel
theorem dX11_forget_22 : decode cX11_forget 22 = .ok (.iload 4, 2) := by decide +kernel
theorem dX11_forget_24 : decode cX11_forget 24 = .ok (.goto 8, 3) := by decide +kernel
theorem dX11_forget_27 : decode cX11_forget 27 = .ok (.iload 4, 2) := by decide +kernel
theorem dX11_forget_29 : decode cX11_forget 29 = .ok (.invokestatic 253, 3) := by decide +kernel
theorem dX11_forget_32 : decode cX11_forget 32 = .ok (.ireturn, 1) := by decide +kernel
theorem dX11_round_0 : decode cX11_round 0 = .ok (.aload_n 0, 1) := by decide +kernel
theorem dX11_round_1 : decode cX11_round 1 = .ok (.iload_n 1, 1) := by decide +kernel
theorem dX11_round_2 : decode cX11_round 2 = .ok (.invokevirtual 90, 3) := by decide +kernel
theorem dX11_round_5 : decode cX11_round 5 = .ok (.astore_n 3, 1) := by decide +kernel
theorem dX11_round_6 : decode cX11_round 6 = .ok (.aload_n 3, 1) := by decide +kernel
theorem dX11_round_7 : decode cX11_round 7 = .ok (.ifnonnull 5, 3) := by decide +kernel
theorem dX11_round_10 : decode cX11_round 10 = .ok (.iconst (-1), 1) := by decide +kernel
theorem dX11_round_11 : decode cX11_round 11 = .ok (.ireturn, 1) := by decide +kernel
theorem dX11_round_12 : decode cX11_round 12 = .ok (.aload_n 0, 1) := by decide +kernel
theorem dX11_round_13 : decode cX11_round 13 = .ok (.getfield 41, 3) := by decide +kernel
theorem dX11_round_16 : decode cX11_round 16 = .ok (.aload_n 3, 1) := by decide +kernel
theorem dX11_round_17 : decode cX11_round 17 = .ok (.iconst 1, 1) := by decide +kernel
theorem dX11_round_18 : decode cX11_round 18 = .ok (.invokevirtual 149, 3) := by decide +kernel
theorem dX11_round_21 : decode cX11_round 21 = .ok (.iload_n 2, 1) := by decide +kernel
theorem dX11_round_22 : decode cX11_round 22 = .ok (.iconst (-1), 1) := by decide +kernel
theorem dX11_round_23 : decode cX11_round 23 = .ok (.if_icmp .ne 14, 3) := by decide +kernel
theorem dX11_round_26 : decode cX11_round 26 = .ok (.aload_n 0, 1) := by decide +kernel
theorem dX11_round_27 : decode cX11_round 27 = .ok (.getfield 41, 3) := by decide +kernel
theorem dX11_round_30 : decode cX11_round 30 = .ok (.getfield 153, 3) := by decide +kernel
theorem dX11_round_33 : decode cX11_round 33 = .ok (.ineg, 1) := by decide +kernel
theorem dX11_round_34 : decode cX11_round 34 = .ok (.goto 12, 3) := by decide +kernel
theorem dX11_round_37 : decode cX11_round 37 = .ok (.aload_n 0, 1) := by decide +kernel
theorem dX11_round_38 : decode cX11_round 38 = .ok (.getfield 41, 3) := by decide +kernel
theorem dX11_round_41 : decode cX11_round 41 = .ok (.iload_n 2, 1) := by decide +kernel
theorem dX11_round_42 : decode cX11_round 42 = .ok (.iconst (-1), 1) := by decide +kernel
theorem dX11_round_43 : decode cX11_round 43 = .ok (.invokevirtual 157, 3) := by decide +kernel
theorem dX11_round_46 : decode cX11_round 46 = .ok (.ireturn, 1) := by decide +kernel
theorem dX11_centre_0 : decode cX11_centre 0 = .ok (.aload_n 0, 1) := by decide +kernel
theorem dX11_centre_1 : decode cX11_centre 1 = .ok (.iload_n 1, 1) := by decide +kernel
theorem dX11_centre_2 : decode cX11_centre 2 = .ok (.invokevirtual 90, 3) := by decide +kernel
theorem dX11_centre_5 : decode cX11_centre 5 = .ok (.astore_n 3, 1) := by decide +kernel
theorem dX11_centre_6 : decode cX11_centre 6 = .ok (.aload_n 3, 1) := by decide +kernel
theorem dX11_centre_7 : decode cX11_centre 7 = .ok (.ifnonnull 6, 3) := by decide +kernel
theorem dX11_centre_10 : decode cX11_centre 10 = .ok (.bipush (-2), 2) := by decide +kernel
theorem dX11_centre_12 : decode cX11_centre 12 = .ok (.ireturn, 1) := by decide +kernel
theorem dX11_centre_13 : decode cX11_centre 13 = .ok (.iload_n 2, 1) := by decide +kernel
theorem dX11_centre_14 : decode cX11_centre 14 = .ok (.tableswitch 97 0 6 #[42, 47, 56, 65, 82, 87, 92], 42) := by decide +kernel
theorem dX11_centre_56 : decode cX11_centre 56 = .ok (.aload_n 3, 1) := by decide +kernel
theorem dX11_centre_57 : decode cX11_centre 57 = .ok (.invokestatic 257, 3) := by decide +kernel
theorem dX11_centre_60 : decode cX11_centre 60 = .ok (.ireturn, 1) := by decide +kernel
theorem dX11_centre_61 : decode cX11_centre 61 = .ok (.aload_n 3, 1) := by decide +kernel
theorem dX11_centre_62 : decode cX11_centre 62 = .ok (.aload_n 3, 1) := by decide +kernel
theorem dX11_centre_63 : decode cX11_centre 63 = .ok (.invokestatic 257, 3) := by decide +kernel
theorem dX11_centre_66 : decode cX11_centre 66 = .ok (.invokestatic 260, 3) := by decide +kernel
theorem dX11_centre_69 : decode cX11_centre 69 = .ok (.ireturn, 1) := by decide +kernel
theorem dX11_centre_70 : decode cX11_centre 70 = .ok (.aload_n 0, 1) := by decide +kernel
theorem dX11_centre_71 : decode cX11_centre 71 = .ok (.getfield 55, 3) := by decide +kernel
theorem dX11_centre_74 : decode cX11_centre 74 = .ok (.aload_n 3, 1) := by decide +kernel
theorem dX11_centre_75 : decode cX11_centre 75 = .ok (.invokevirtual 263, 3) := by decide +kernel
theorem dX11_centre_78 : decode cX11_centre 78 = .ok (.ireturn, 1) := by decide +kernel
theorem dX11_centre_79 : decode cX11_centre 79 = .ok (.aload_n 0, 1) := by decide +kernel
theorem dX11_centre_80 : decode cX11_centre 80 = .ok (.getfield 55, 3) := by decide +kernel
theorem dX11_centre_83 : decode cX11_centre 83 = .ok (.aload_n 3, 1) := by decide +kernel
theorem dX11_centre_84 : decode cX11_centre 84 = .ok (.aload_n 0, 1) := by decide +kernel
theorem dX11_centre_85 : decode cX11_centre 85 = .ok (.getfield 55, 3) := by decide +kernel
theorem dX11_centre_88 : decode cX11_centre 88 = .ok (.aload_n 3, 1) := by decide +kernel
theorem dX11_centre_89 : decode cX11_centre 89 = .ok (.invokevirtual 263, 3) := by decide +kernel
theorem dX11_centre_92 : decode cX11_centre 92 = .ok (.invokevirtual 266, 3) := by decide +kernel
theorem dX11_centre_95 : decode cX11_centre 95 = .ok (.ireturn, 1) := by decide +kernel
theorem dX11_centre_96 : decode cX11_centre 96 = .ok (.aload_n 3, 1) := by decide +kernel
theorem dX11_centre_97 : decode cX11_centre 97 = .ok (.invokestatic 269, 3) := by decide +kernel
theorem dX11_centre_100 : decode cX11_centre 100 = .ok (.ireturn, 1) := by decide +kernel
theorem dX11_centre_101 : decode cX11_centre 101 = .ok (.aload_n 3, 1) := by decide +kernel
theorem dX11_centre_102 : decode cX11_centre 102 = .ok (.invokestatic 272, 3) := by decide +kernel
theorem dX11_centre_105 : decode cX11_centre 105 = .ok (.ireturn, 1) := by decide +kernel
theorem dX11_centre_106 : decode cX11_centre 106 = .ok (.aload_n 3, 1) := by decide +kernel
theorem dX11_centre_107 : decode cX11_centre 107 = .ok (.invokestatic 275, 3) := by decide +kernel
theorem dX11_centre_110 : decode cX11_centre 110 = .ok (.ireturn, 1) := by decide +kernel
theorem dX11_centre_111 : decode cX11_centre 111 = .ok (.bipush (-2), 2) := by decide +kernel
theorem dX11_centre_113 : decode cX11_centre 113 = .ok (.ireturn, 1) := by decide +kernel
theorem dX11_ring_0 : decode cX11_ring 0 = .ok (.aload_n 0, 1) := by decide +kernel
theorem dX11_ring_1 : decode cX11_ring 1 = .ok (.iload_n 1, 1) := by decide +kernel
theorem dX11_ring_2 : decode cX11_ring 2 = .ok (.invokevirtual 90, 3) := by decide +kernel
theorem dX11_ring_5 : decode cX11_ring 5 = .ok (.astore_n 3, 1) := by decide +kernel
theorem dX11_ring_6 : decode cX11_ring 6 = .ok (.aload_n 3, 1) := by decide +kernel
theorem dX11_ring_7 : decode cX11_ring 7 = .ok (.ifnull 13, 3) := by decide +kernel
theorem dX11_ring_10 : decode cX11_ring 10 = .ok (.iload_n 2, 1) := by decide +kernel
theorem dX11_ring_11 : decode cX11_ring 11 = .ok (.ifCond .lt 9, 3) := by decide +kernel
theorem dX11_ring_14 : decode cX11_ring 14 = .ok (.iload_n 2, 1) := by decide +kernel
theorem dX11_ring_15 : decode cX11_ring 15 = .ok (.bipush 18, 2) := by decide +kernel
theorem dX11_ring_17 : decode cX11_ring 17 = .ok (.if_icmp .le 7, 3) := by decide +kernel
theorem dX11_ring_20 : decode cX11_ring 20 = .ok (.iconst (-1), 1) := by decide +kernel
theorem dX11_ring_21 : decode cX11_ring 21 = .ok (.goto 8, 3) := by decide +kernel
theorem dX11_ring_24 : decode cX11_ring 24 = .ok (.aload_n 3, 1) := by decide +kernel
theorem dX11_ring_25 : decode cX11_ring 25 = .ok (.iload_n 2, 1) := by decide +kernel
theorem dX11_ring_26 : decode cX11_ring 26 = .ok (.invokevirtual 278, 3) := by decide +kernel
theorem dX11_ring_29 : decode cX11_ring 29 = .ok (.ireturn, 1) := by decide +kernel
theorem dX11_ladder_0 : decode cX11_ladder 0 = .ok (.aload_n 0, 1) := by decide +kernel
theorem dX11_ladder_1 : decode cX11_ladder 1 = .ok (.iload_n 1, 1) := by decide +kernel
theorem dX11_ladder_2 : decode cX11_ladder 2 = .ok (.invokevirtual 90, 3) := by decide +kernel
theorem dX11_ladder_5 : decode cX11_ladder 5 = .ok (.astore_n 3, 1) := by decide +kernel
theorem dX11_ladder_6 : decode cX11_ladder 6 = .ok (.aload_n 3, 1) := by decide +kernel
theorem dX11_ladder_7 : decode cX11_ladder 7 = .ok (.ifnonnull 5, 3) := by decide +kernel
theorem dX11_ladder_10 : decode cX11_ladder 10 = .ok (.iconst (-1), 1) := by decide +kernel
theorem dX11_ladder_11 : decode cX11_ladder 11 = .ok (.ireturn, 1) := by decide +kernel
theorem dX11_ladder_12 : decode cX11_ladder 12 = .ok (.aload_n 0, 1) := by decide +kernel
theorem dX11_ladder_13 : decode cX11_ladder 13 = .ok (.getfield 48, 3) := by decide +kernel
theorem dX11_ladder_16 : decode cX11_ladder 16 = .ok (.aload_n 3, 1) := by decide +kernel
theorem dX11_ladder_17 : decode cX11_ladder 17 = .ok (.invokevirtual 281, 3) := by decide +kernel
theorem dX11_ladder_20 : decode cX11_ladder 20 = .ok (.iload_n 2, 1) := by decide +kernel
theorem dX11_ladder_21 : decode cX11_ladder 21 = .ok (.iconst (-1), 1) := by decide +kernel
theorem dX11_ladder_22 : decode cX11_ladder 22 = .ok (.if_icmp .ne 13, 3) := by decide +kernel
theorem dX11_ladder_25 : decode cX11_ladder 25 = .ok (.aload_n 0, 1) := by decide +kernel
theorem dX11_ladder_26 : decode cX11_ladder 26 = .ok (.getfield 48, 3) := by decide +kernel
theorem dX11_ladder_29 : decode cX11_ladder 29 = .ok (.getfield 285, 3) := by decide +kernel
theorem dX11_ladder_32 : decode cX11_ladder 32 = .ok (.goto 11, 3) := by decide +kernel
theorem dX11_ladder_35 : decode cX11_ladder 35 = .ok (.aload_n 0, 1) := by decide +kernel
theorem dX11_ladder_36 : decode cX11_ladder 36 = .ok (.getfield 48, 3) := by decide +kernel
theorem dX11_ladder_39 : decode cX11_ladder 39 = .ok (.iload_n 2, 1) := by decide +kernel
theorem dX11_ladder_40 : decode cX11_ladder 40 = .ok (.invokevirtual 288, 3) := by decide +kernel
theorem dX11_ladder_43 : decode cX11_ladder 43 = .ok (.ireturn, 1) := by decide +kernel
theorem dX11_next_0 : decode cX11_next 0 = .ok (.aload_n 0, 1) := by decide +kernel
theorem dX11_next_1 : decode cX11_next 1 = .ok (.iload_n 1, 1) := by decide +kernel
theorem dX11_next_2 : decode cX11_next 2 = .ok (.invokevirtual 90, 3) := by decide +kernel
theorem dX11_next_5 : decode cX11_next 5 = .ok (.astore_n 3, 1) := by decide +kernel
theorem dX11_next_6 : decode cX11_next 6 = .ok (.aload_n 3, 1) := by decide +kernel
theorem dX11_next_7 : decode cX11_next 7 = .ok (.ifnull 13, 3) := by decide +kernel
theorem dX11_next_10 : decode cX11_next 10 = .ok (.iload_n 2, 1) := by decide +kernel
theorem dX11_next_11 : decode cX11_next 11 = .ok (.ifCond .lt 9, 3) := by decide +kernel
theorem dX11_next_14 : decode cX11_next 14 = .ok (.iload_n 2, 1) := by decide +kernel
theorem dX11_next_15 : decode cX11_next 15 = .ok (.bipush 99, 2) := by decide +kernel
theorem dX11_next_17 : decode cX11_next 17 = .ok (.if_icmp .le 7, 3) := by decide +kernel
theorem dX11_next_20 : decode cX11_next 20 = .ok (.iconst (-1), 1) := by decide +kernel
theorem dX11_next_21 : decode cX11_next 21 = .ok (.goto 8, 3) := by decide +kernel
theorem dX11_next_24 : decode cX11_next 24 = .ok (.aload_n 3, 1) := by decide +kernel
theorem dX11_next_25 : decode cX11_next 25 = .ok (.iload_n 2, 1) := by decide +kernel
theorem dX11_next_26 : decode cX11_next 26 = .ok (.invokevirtual 291, 3) := by decide +kernel
theorem dX11_next_29 : decode cX11_next 29 = .ok (.ireturn, 1) := by decide +kernel
theorem dX11_purse_0 : decode cX11_purse 0 = .ok (.aload_n 0, 1) := by decide +kernel
theorem dX11_purse_1 : decode cX11_purse 1 = .ok (.iload_n 1, 1) := by decide +kernel
theorem dX11_purse_2 : decode cX11_purse 2 = .ok (.invokevirtual 90, 3) := by decide +kernel
theorem dX11_purse_5 : decode cX11_purse 5 = .ok (.astore 4, 2) := by decide +kernel
theorem dX11_purse_7 : decode cX11_purse 7 = .ok (.aload 4, 2) := by decide +kernel
theorem dX11_purse_9 : decode cX11_purse 9 = .ok (.ifnull 13, 3) := by decide +kernel
theorem dX11_purse_12 : decode cX11_purse 12 = .ok (.iload_n 2, 1) := by decide +kernel
theorem dX11_purse_13 : decode cX11_purse 13 = .ok (.ifCond .lt 9, 3) := by decide +kernel
theorem dX11_purse_16 : decode cX11_purse 16 = .ok (.iload_n 2, 1) := by decide +kernel
theorem dX11_purse_17 : decode cX11_purse 17 = .ok (.bipush 99, 2) := by decide +kernel
theorem dX11_purse_19 : decode cX11_purse 19 = .ok (.if_icmp .le 5, 3) := by decide +kernel
theorem dX11_purse_22 : decode cX11_purse 22 = .ok (.iconst (-1), 1) := by decide +kernel
theorem dX11_purse_23 : decode cX11_purse 23 = .ok (.ireturn, 1) := by decide +kernel
theorem dX11_purse_24 : decode cX11_purse 24 = .ok (.aload 4, 2) := by decide +kernel
theorem dX11_purse_26 : decode cX11_purse 26 = .ok (.iload_n 2, 1) := by decide +kernel
theorem dX11_purse_27 : decode cX11_purse 27 = .ok (.invokestatic 294, 3) := by decide +kernel
theorem dX11_purse_30 : decode cX11_purse 30 = .ok (.istore 5, 2) := by decide +kernel
theorem dX11_purse_32 : decode cX11_purse 32 = .ok (.iload_n 3, 1) := by decide +kernel
theorem dX11_purse_33 : decode cX11_purse 33 = .ok (.ifCond .eq 8, 3) := by decide +kernel
theorem dX11_purse_36 : decode cX11_purse 36 = .ok (.iload 5, 2) := by decide +kernel
theorem dX11_purse_38 : decode cX11_purse 38 = .ok (.goto 13, 3) := by decide +kernel
theorem dX11_purse_41 : decode cX11_purse 41 = .ok (.aload 4, 2) := by decide +kernel
theorem dX11_purse_43 : decode cX11_purse 43 = .ok (.iload 5, 2) := by decide +kernel
theorem dX11_purse_45 : decode cX11_purse 45 = .ok (.invokestatic 296, 3) := by decide +kernel
theorem dX11_purse_48 : decode cX11_purse 48 = .ok (.invokestatic 253, 3) := by decide +kernel
theorem dX11_purse_51 : decode cX11_purse 51 = .ok (.ireturn, 1) := by decide +kernel
theorem dX11_calm_0 : decode cX11_calm 0 = .ok (.aload_n 0, 1) := by decide +kernel
theorem dX11_calm_1 : decode cX11_calm 1 = .ok (.iload_n 1, 1) := by decide +kernel
theorem dX11_calm_2 : decode cX11_calm 2 = .ok (.invokevirtual 90, 3) := by decide +kernel
theorem dX11_calm_5 : decode cX11_calm 5 = .ok (.astore 4, 2) := by decide +kernel
theorem dX11_calm_7 : decode cX11_calm 7 = .ok (.aload 4, 2) := by decide +kernel
theorem dX11_calm_9 : decode cX11_calm 9 = .ok (.ifnull 13, 3) := by decide +kernel
theorem dX11_calm_12 : decode cX11_calm 12 = .ok (.iload_n 2, 1) := by decide +kernel
theorem dX11_calm_13 : decode cX11_calm 13 = .ok (.ifCond .lt 9, 3) := by decide +kernel
theorem dX11_calm_16 : decode cX11_calm 16 = .ok (.iload_n 2, 1) := by decide +kernel
theorem dX11_calm_17 : decode cX11_calm 17 = .ok (.bipush 10, 2) := by decide +kernel
theorem dX11_calm_19 : decode cX11_calm 19 = .ok (.if_icmp .le 7, 3) := by decide +kernel
theorem dX11_calm_22 : decode cX11_calm 22 = .ok (.ldc2_w 299, 3) := by decide +kernel
theorem dX11_calm_25 : decode cX11_calm 25 = .ok (.lreturn, 1) := by decide +kernel
theorem dX11_calm_26 : decode cX11_calm 26 = .ok (.aload 4, 2) := by decide +kernel
theorem dX11_calm_28 : decode cX11_calm 28 = .ok (.iconst 0, 1) := by decide +kernel
theorem dX11_calm_29 : decode cX11_calm 29 = .ok (.invokevirtual 301, 3) := by decide +kernel
theorem dX11_calm_32 : decode cX11_calm 32 = .ok (.invokestatic 253, 3) := by decide +kernel
theorem dX11_calm_35 : decode cX11_calm 35 = .ok (.istore 5, 2) := by decide +kernel
theorem dX11_calm_37 : decode cX11_calm 37 = .ok (.bipush 10, 2) := by decide +kernel
theorem dX11_calm_39 : decode cX11_calm 39 = .ok (.iload_n 2, 1) := by decide +kernel
theorem dX11_calm_40 : decode cX11_calm 40 = .ok (.isub, 1) := by decide +kernel
theorem dX11_calm_41 : decode cX11_calm 41 = .ok (.iload 5, 2) := by decide +kernel
theorem dX11_calm_43 : decode cX11_calm 43 = .ok (.invokestatic 304, 3) := by decide +kernel
theorem dX11_calm_46 : decode cX11_calm 46 = .ok (.bipush 10, 2) := by decide +kernel
theorem dX11_calm_48 : decode cX11_calm 48 = .ok (.iload 5, 2) := by decide +kernel
theorem dX11_calm_50 : decode cX11_calm 50 = .ok (.invokestatic 304, 3) := by decide +kernel
theorem dX11_calm_53 : decode cX11_calm 53 = .ok (.iload_n 3, 1) := by decide +kernel
theorem dX11_calm_54 : decode cX11_calm 54 = .ok (.invokestatic 237, 3) := by decide +kernel
theorem dX11_calm_57 : decode cX11_calm 57 = .ok (.lreturn, 1) := by decide +kernel
theorem dX11_plays_0 : decode cX11_plays 0 = .ok (.aload_n 0, 1) := by decide +kernel
theorem dX11_plays_1 : decode cX11_plays 1 = .ok (.iload_n 1, 1) := by decide +kernel
theorem dX11_plays_2 : decode cX11_plays 2 = .ok (.invokevirtual 90, 3) := by decide +kernel
theorem dX11_plays_5 : decode cX11_plays 5 = .ok (.astore_n 3, 1) := by decide +kernel
theorem dX11_plays_6 : decode cX11_plays 6 = .ok (.aload_n 3, 1) := by decide +kernel
theorem dX11_plays_7 : decode cX11_plays 7 = .ok (.ifnull 13, 3) := by decide +kernel
theorem dX11_plays_10 : decode cX11_plays 10 = .ok (.iload_n 2, 1) := by decide +kernel
theorem dX11_plays_11 : decode cX11_plays 11 = .ok (.ifCond .lt 9, 3) := by decide +kernel
theorem dX11_plays_14 : decode cX11_plays 14 = .ok (.iload_n 2, 1) := by decide +kernel
theorem dX11_plays_15 : decode cX11_plays 15 = .ok (.bipush 99, 2) := by decide +kernel
theorem dX11_plays_17 : decode cX11_plays 17 = .ok (.if_icmp .le 7, 3) := by decide +kernel
theorem dX11_plays_20 : decode cX11_plays 20 = .ok (.iconst (-1), 1) := by decide +kernel
theorem dX11_plays_21 : decode cX11_plays 21 = .ok (.goto 8, 3) := by decide +kernel
theorem dX11_plays_24 : decode cX11_plays 24 = .ok (.aload_n 3, 1) := by decide +kernel
theorem dX11_plays_25 : decode cX11_plays 25 = .ok (.iload_n 2, 1) := by decide +kernel
theorem dX11_plays_26 : decode cX11_plays 26 = .ok (.invokevirtual 308, 3) := by decide +kernel
theorem dX11_plays_29 : decode cX11_plays 29 = .ok (.ireturn, 1) := by decide +kernel
theorem dX11_guess_0 : decode cX11_guess 0 = .ok (.aload_n 0, 1) := by decide +kernel
theorem dX11_guess_1 : decode cX11_guess 1 = .ok (.iload_n 1, 1) := by decide +kernel
theorem dX11_guess_2 : decode cX11_guess 2 = .ok (.invokevirtual 90, 3) := by decide +kernel
theorem dX11_guess_5 : decode cX11_guess 5 = .ok (.astore 4, 2) := by decide +kernel
theorem dX11_guess_7 : decode cX11_guess 7 = .ok (.aload 4, 2) := by decide +kernel
theorem dX11_guess_9 : decode cX11_guess 9 = .ok (.ifnull 16, 3) := by decide +kernel
theorem dX11_guess_12 : decode cX11_guess 12 = .ok (.iload_n 2, 1) := by decide +kernel
theorem dX11_guess_13 : decode cX11_guess 13 = .ok (.ifCond .lt 12, 3) := by decide +kernel
theorem dX11_guess_16 : decode cX11_guess 16 = .ok (.iload_n 2, 1) := by decide +kernel
theorem dX11_guess_17 : decode cX11_guess 17 = .ok (.aload 4, 2) := by decide +kernel
theorem dX11_guess_19 : decode cX11_guess 19 = .ok (.getfield 131, 3) := by decide +kernel
theorem dX11_guess_22 : decode cX11_guess 22 = .ok (.if_icmp .le 7, 3) := by decide +kernel
theorem dX11_guess_25 : decode cX11_guess 25 = .ok (.ldc2_w 299, 3) := by decide +kernel
theorem dX11_guess_28 : decode cX11_guess 28 = .ok (.lreturn, 1) := by decide +kernel
theorem dX11_guess_29 : decode cX11_guess 29 = .ok (.aload 4, 2) := by decide +kernel
theorem dX11_guess_31 : decode cX11_guess 31 = .ok (.iconst 0, 1) := by decide +kernel
theorem dX11_guess_32 : decode cX11_guess 32 = .ok (.invokevirtual 301, 3) := by decide +kernel
theorem dX11_guess_35 : decode cX11_guess 35 = .ok (.invokestatic 253, 3) := by decide +kernel
theorem dX11_guess_38 : decode cX11_guess 38 = .ok (.istore 5, 2) := by decide +kernel
theorem dX11_guess_40 : decode cX11_guess 40 = .ok (.aload 4, 2) := by decide +kernel
theorem dX11_guess_42 : decode cX11_guess 42 = .ok (.getfield 131, 3) := by decide +kernel
theorem dX11_guess_45 : decode cX11_guess 45 = .ok (.iload 5, 2) := by decide +kernel
theorem dX11_guess_47 : decode cX11_guess 47 = .ok (.isub, 1) := by decide +kernel
theorem dX11_guess_48 : decode cX11_guess 48 = .ok (.iload_n 2, 1) := by decide +kernel
theorem dX11_guess_49 : decode cX11_guess 49 = .ok (.iload 5, 2) := by decide +kernel
theorem dX11_guess_51 : decode cX11_guess 51 = .ok (.isub, 1) := by decide +kernel
theorem dX11_guess_52 : decode cX11_guess 52 = .ok (.invokestatic 311, 3) := by decide +kernel
theorem dX11_guess_55 : decode cX11_guess 55 = .ok (.lstore 6, 2) := by decide +kernel
theorem dX11_guess_57 : decode cX11_guess 57 = .ok (.lload 6, 2) := by decide +kernel
theorem dX11_guess_59 : decode cX11_guess 59 = .ok (.aload 4, 2) := by decide +kernel
theorem dX11_guess_61 : decode cX11_guess 61 = .ok (.getfield 131, 3) := by decide +kernel
theorem dX11_guess_64 : decode cX11_guess 64 = .ok (.iload_n 2, 1) := by decide +kernel
theorem dX11_guess_65 : decode cX11_guess 65 = .ok (.invokestatic 311, 3) := by decide +kernel
theorem dX11_guess_68 : decode cX11_guess 68 = .ok (.iload_n 3, 1) := by decide +kernel
theorem dX11_guess_69 : decode cX11_guess 69 = .ok (.invokestatic 237, 3) := by decide +kernel
theorem dX11_guess_72 : decode cX11_guess 72 = .ok (.lreturn, 1) := by decide +kernel
theorem dX11_after_0 : decode cX11_after 0 = .ok (.aload_n 0, 1) := by decide +kernel
theorem dX11_after_1 : decode cX11_after 1 = .ok (.iload_n 1, 1) := by decide +kernel
theorem dX11_after_2 : decode cX11_after 2 = .ok (.invokevirtual 90, 3) := by decide +kernel
theorem dX11_after_5 : decode cX11_after 5 = .ok (.astore 4, 2) := by decide +kernel
theorem dX11_after_7 : decode cX11_after 7 = .ok (.aload_n 0, 1) := by decide +kernel
theorem dX11_after_8 : decode cX11_after 8 = .ok (.iload_n 2, 1) := by decide +kernel
theorem dX11_after_9 : decode cX11_after 9 = .ok (.invokevirtual 100, 3) := by decide +kernel
theorem dX11_after_12 : decode cX11_after 12 = .ok (.astore 5, 2) := by decide +kernel
theorem dX11_after_14 : decode cX11_after 14 = .ok (.aload 4, 2) := by decide +kernel
theorem dX11_after_16 : decode cX11_after 16 = .ok (.ifnull 8, 3) := by decide +kernel
theorem dX11_after_19 : decode cX11_after 19 = .ok (.aload 5, 2) := by decide +kernel
theorem dX11_after_21 : decode cX11_after 21 = .ok (.ifnonnull 6, 3) := by decide +kernel
theorem dX11_after_24 : decode cX11_after 24 = .ok (.bipush (-2), 2) := by decide +kernel
theorem dX11_after_26 : decode cX11_after 26 = .ok (.ireturn, 1) := by decide +kernel
theorem dX11_after_27 : decode cX11_after 27 = .ok (.aload_n 0, 1) := by decide +kernel
theorem dX11_after_28 : decode cX11_after 28 = .ok (.getfield 34, 3) := by decide +kernel
theorem dX11_after_31 : decode cX11_after 31 = .ok (.aload 4, 2) := by decide +kernel
theorem dX11_after_33 : decode cX11_after 33 = .ok (.aload 5, 2) := by decide +kernel
theorem dX11_after_35 : decode cX11_after 35 = .ok (.aload 5, 2) := by decide +kernel
theorem dX11_after_37 : decode cX11_after 37 = .ok (.getfield 108, 3) := by decide +kernel
theorem dX11_after_40 : decode cX11_after 40 = .ok (.invokevirtual 111, 3) := by decide +kernel
theorem dX11_after_43 : decode cX11_after 43 = .ok (.pop, 1) := by decide +kernel
theorem dX11_after_44 : decode cX11_after 44 = .ok (.aload_n 0, 1) := by decide +kernel
theorem dX11_after_45 : decode cX11_after 45 = .ok (.getfield 34, 3) := by decide +kernel
theorem dX11_after_48 : decode cX11_after 48 = .ok (.iload_n 3, 1) := by decide +kernel
theorem dX11_after_49 : decode cX11_after 49 = .ok (.invokevirtual 314, 3) := by decide +kernel
theorem dX11_after_52 : decode cX11_after 52 = .ok (.ireturn, 1) := by decide +kernel
theorem dX11_odds_0 : decode cX11_odds 0 = .ok (.aload_n 0, 1) := by decide +kernel
theorem dX11_odds_1 : decode cX11_odds 1 = .ok (.iload_n 1, 1) := by decide +kernel
theorem dX11_odds_2 : decode cX11_odds 2 = .ok (.invokevirtual 166, 3) := by decide +kernel
theorem dX11_odds_5 : decode cX11_odds 5 = .ok (.astore 4, 2) := by decide +kernel
theorem dX11_odds_7 : decode cX11_odds 7 = .ok (.aload 4, 2) := by decide +kernel
theorem dX11_odds_9 : decode cX11_odds 9 = .ok (.ifnull 13, 3) := by decide +kernel
theorem dX11_odds_12 : decode cX11_odds 12 = .ok (.iload_n 2, 1) := by decide +kernel
theorem dX11_odds_13 : decode cX11_odds 13 = .ok (.ifCond .lt 9, 3) := by decide +kernel
theorem dX11_odds_16 : decode cX11_odds 16 = .ok (.iload_n 2, 1) := by decide +kernel
theorem dX11_odds_17 : decode cX11_odds 17 = .ok (.bipush 64, 2) := by decide +kernel
theorem dX11_odds_19 : decode cX11_odds 19 = .ok (.if_icmp .lt 5, 3) := by decide +kernel
theorem dX11_odds_22 : decode cX11_odds 22 = .ok (.iconst (-1), 1) := by decide +kernel
theorem dX11_odds_23 : decode cX11_odds 23 = .ok (.ireturn, 1) := by decide +kernel
theorem dX11_odds_24 : decode cX11_odds 24 = .ok (.aload 4, 2) := by decide +kernel
theorem dX11_odds_26 : decode cX11_odds 26 = .ok (.invokevirtual 173, 3) := by decide +kernel
theorem dX11_odds_29 : decode cX11_odds 29 = .ok (.lstore 5, 2) := by decide +kernel
theorem dX11_odds_31 : decode cX11_odds 31 = .ok (.lload 5, 2) := by decide +kernel
theorem dX11_odds_33 : decode cX11_odds 33 = .ok (.lconst 0, 1) := by decide +kernel
theorem dX11_odds_34 : decode cX11_odds 34 = .ok (.lcmp, 1) := by decide +kernel
theorem dX11_odds_35 : decode cX11_odds 35 = .ok (.ifCond .ne 7, 3) := by decide +kernel
theorem dX11_odds_38 : decode cX11_odds 38 = .ok (.iconst (-1), 1) := by decide +kernel
theorem dX11_odds_39 : decode cX11_odds 39 = .ok (.goto 21, 3) := by decide +kernel
theorem dX11_odds_42 : decode cX11_odds 42 = .ok (.lload 5, 2) := by decide +kernel
theorem dX11_odds_44 : decode cX11_odds 44 = .ok (.iload_n 2, 1) := by decide +kernel
theorem dX11_odds_45 : decode cX11_odds 45 = .ok (.invokestatic 317, 3) := by decide +kernel
theorem dX11_odds_48 : decode cX11_odds 48 = .ok (.i2l, 1) := by decide +kernel
theorem dX11_odds_49 : decode cX11_odds 49 = .ok (.lload 5, 2) := by decide +kernel
theorem dX11_odds_51 : decode cX11_odds 51 = .ok (.invokestatic 177, 3) := by decide +kernel
theorem dX11_odds_54 : decode cX11_odds 54 = .ok (.i2l, 1) := by decide +kernel
theorem dX11_odds_55 : decode cX11_odds 55 = .ok (.iload_n 3, 1) := by decide +kernel
theorem dX11_odds_56 : decode cX11_odds 56 = .ok (.invokestatic 237, 3) := by decide +kernel
theorem dX11_odds_59 : decode cX11_odds 59 = .ok (.l2i, 1) := by decide +kernel
theorem dX11_odds_60 : decode cX11_odds 60 = .ok (.ireturn, 1) := by decide +kernel
theorem dX11_small_0 : decode cX11_small 0 = .ok (.aload_n 0, 1) := by decide +kernel
theorem dX11_small_1 : decode cX11_small 1 = .ok (.iload_n 1, 1) := by decide +kernel
theorem dX11_small_2 : decode cX11_small 2 = .ok (.invokevirtual 166, 3) := by decide +kernel
theorem dX11_small_5 : decode cX11_small 5 = .ok (.astore_n 3, 1) := by decide +kernel
theorem dX11_small_6 : decode cX11_small 6 = .ok (.aload_n 3, 1) := by decide +kernel
theorem dX11_small_7 : decode cX11_small 7 = .ok (.ifnonnull 6, 3) := by decide +kernel
theorem dX11_small_10 : decode cX11_small 10 = .ok (.bipush (-2), 2) := by decide +kernel
theorem dX11_small_12 : decode cX11_small 12 = .ok (.ireturn, 1) := by decide +kernel
theorem dX11_small_13 : decode cX11_small 13 = .ok (.iload_n 2, 1) := by decide +kernel
theorem dX11_small_14 : decode cX11_small 14 = .ok (.tableswitch 56 0 3 #[30, 38, 46, 51], 30) := by decide +kernel
theorem dX11_small_44 : decode cX11_small 44 = .ok (.aload_n 3, 1) := by decide +kernel
theorem dX11_small_45 : decode cX11_small 45 = .ok (.invokevirtual 173, 3) := by decide +kernel
theorem dX11_small_48 : decode cX11_small 48 = .ok (.invokestatic 320, 3) := by decide +kernel
theorem dX11_small_51 : decode cX11_small 51 = .ok (.ireturn, 1) := by decide +kernel
theorem dX11_small_52 : decode cX11_small 52 = .ok (.aload_n 3, 1) := by decide +kernel
theorem dX11_small_53 : decode cX11_small 53 = .ok (.invokevirtual 173, 3) := by decide +kernel
theorem dX11_small_56 : decode cX11_small 56 = .ok (.invokestatic 323, 3) := by decide +kernel
theorem dX11_small_59 : decode cX11_small 59 = .ok (.ireturn, 1) := by decide +kernel
theorem dX11_small_60 : decode cX11_small 60 = .ok (.aload_n 3, 1) := by decide +kernel
theorem dX11_small_61 : decode cX11_small 61 = .ok (.invokevirtual 326, 3) := by decide +kernel
theorem dX11_small_64 : decode cX11_small 64 = .ok (.ireturn, 1) := by decide +kernel
theorem dX11_small_65 : decode cX11_small 65 = .ok (.aload_n 3, 1) := by decide +kernel
theorem dX11_small_66 : decode cX11_small 66 = .ok (.invokevirtual 329, 3) := by decide +kernel
theorem dX11_small_69 : decode cX11_small 69 = .ok (.ireturn, 1) := by decide +kernel
theorem dX11_small_70 : decode cX11_small 70 = .ok (.bipush (-2), 2) := by decide +kernel
theorem dX11_small_72 : decode cX11_small 72 = .ok (.ireturn, 1) := by decide +kernel
theorem dX11_count_0 : decode cX11_count 0 = .ok (.iload_n 1, 1) := by decide +kernel
theorem dX11_count_1 : decode cX11_count 1 = .ok (.ifCond .lt 8, 3) := by decide +kernel
theorem dX11_count_4 : decode cX11_count 4 = .ok (.iload_n 1, 1) := by decide +kernel
theorem dX11_count_5 : decode cX11_count 5 = .ok (.iconst 3, 1) := by decide +kernel
theorem dX11_count_6 : decode cX11_count 6 = .ok (.if_icmp .lt 8, 3) := by decide +kernel
theorem dX11_count_9 : decode cX11_count 9 = .ok (.bipush (-2), 2) := by decide +kernel
theorem dX11_count_11 : decode cX11_count 11 = .ok (.goto 12, 3) := by decide +kernel
theorem dX11_count_14 : decode cX11_count 14 = .ok (.aload_n 0, 1) := by decide +kernel
theorem dX11_count_15 : decode cX11_count 15 = .ok (.getfield 10, 3) := by decide +kernel
theorem dX11_count_18 : decode cX11_count 18 = .ok (.getfield 332, 3) := by decide +kernel
theorem dX11_count_21 : decode cX11_count 21 = .ok (.iload_n 1, 1) := by decide +kernel
theorem dX11_count_22 : decode cX11_count 22 = .ok (.iaload, 1) := by decide +kernel
theorem dX11_count_23 : decode cX11_count 23 = .ok (.ireturn, 1) := by decide +kernel
theorem dX11_image_0 : decode cX11_image 0 = .ok (.iload_n 1, 1) := by decide +kernel
theorem dX11_image_1 : decode cX11_image 1 = .ok (.ifCond .lt 8, 3) := by decide +kernel
theorem dX11_image_4 : decode cX11_image 4 = .ok (.iload_n 1, 1) := by decide +kernel
theorem dX11_image_5 : decode cX11_image 5 = .ok (.iconst 3, 1) := by decide +kernel
theorem dX11_image_6 : decode cX11_image 6 = .ok (.if_icmp .lt 5, 3) := by decide +kernel
theorem dX11_image_9 : decode cX11_image 9 = .ok (.iconst 0, 1) := by decide +kernel
theorem dX11_image_10 : decode cX11_image 10 = .ok (.ireturn, 1) := by decide +kernel
theorem dX11_image_11 : decode cX11_image 11 = .ok (.aload_n 0, 1) := by decide +kernel
theorem dX11_image_12 : decode cX11_image 12 = .ok (.getfield 16, 3) := by decide +kernel
theorem dX11_image_15 : decode cX11_image 15 = .ok (.iload_n 1, 1) := by decide +kernel
theorem dX11_image_16 : decode cX11_image 16 = .ok (.aaload, 1) := by decide +kernel
theorem dX11_image_17 : decode cX11_image 17 = .ok (.aload_n 0, 1) := by decide +kernel
theorem dX11_image_18 : decode cX11_image 18 = .ok (.getfield 10, 3) := by decide +kernel
theorem dX11_image_21 : decode cX11_image 21 = .ok (.invokevirtual 336, 3) := by decide +kernel
theorem dX11_image_24 : decode cX11_image 24 = .ok (.aload_n 0, 1) := by decide +kernel
theorem dX11_image_25 : decode cX11_image 25 = .ok (.getfield 20, 3) := by decide +kernel
theorem dX11_image_28 : decode cX11_image 28 = .ok (.iload_n 1, 1) := by decide +kernel
theorem dX11_image_29 : decode cX11_image 29 = .ok (.iconst 1, 1) := by decide +kernel
theorem dX11_image_30 : decode cX11_image 30 = .ok (.bastore, 1) := by decide +kernel
theorem dX11_image_31 : decode cX11_image 31 = .ok (.iconst 1, 1) := by decide +kernel
theorem dX11_image_32 : decode cX11_image 32 = .ok (.ireturn, 1) := by decide +kernel
theorem dX11_again_0 : decode cX11_again 0 = .ok (.iload_n 1, 1) := by decide +kernel
theorem dX11_again_1 : decode cX11_again 1 = .ok (.ifCond .lt 17, 3) := by decide +kernel
theorem dX11_again_4 : decode cX11_again 4 = .ok (.iload_n 1, 1) := by decide +kernel
theorem dX11_again_5 : decode cX11_again 5 = .ok (.iconst 3, 1) := by decide +kernel
theorem dX11_again_6 : decode cX11_again 6 = .ok (.if_icmp .ge 12, 3) := by decide +kernel
theorem dX11_again_9 : decode cX11_again 9 = .ok (.aload_n 0, 1) := by decide +kernel
theorem dX11_again_10 : decode cX11_again 10 = .ok (.getfield 20, 3) := by decide +kernel
theorem dX11_again_13 : decode cX11_again 13 = .ok (.iload_n 1, 1) := by decide +kernel
theorem dX11_again_14 : decode cX11_again 14 = .ok (.baload, 1) := by decide +kernel
theorem dX11_again_15 : decode cX11_again 15 = .ok (.ifCond .ne 5, 3) := by decide +kernel
theorem dX11_again_18 : decode cX11_again 18 = .ok (.iconst 0, 1) := by decide +kernel
theorem dX11_again_19 : decode cX11_again 19 = .ok (.ireturn, 1) := by decide +kernel
theorem dX11_again_20 : decode cX11_again 20 = .ok (.aload_n 0, 1) := by decide +kernel
theorem dX11_again_21 : decode cX11_again 21 = .ok (.getfield 10, 3) := by decide +kernel
theorem dX11_again_24 : decode cX11_again 24 = .ok (.aload_n 0, 1) := by decide +kernel
theorem dX11_again_25 : decode cX11_again 25 = .ok (.getfield 16, 3) := by decide +kernel
theorem dX11_again_28 : decode cX11_again 28 = .ok (.iload_n 1, 1) := by decide +kernel
theorem dX11_again_29 : decode cX11_again 29 = .ok (.aaload, 1) := by decide +kernel
theorem dX11_again_30 : decode cX11_again 30 = .ok (.invokevirtual 336, 3) := by decide +kernel
theorem dX11_again_33 : decode cX11_again 33 = .ok (.iconst 1, 1) := by decide +kernel
theorem dX11_again_34 : decode cX11_again 34 = .ok (.ireturn, 1) := by decide +kernel
theorem dX11_fairOf_0 : decode cX11_fairOf 0 = .ok (.aload_n 0, 1) := by decide +kernel
theorem dX11_fairOf_1 : decode cX11_fairOf 1 = .ok (.getfield 10, 3) := by decide +kernel
theorem dX11_fairOf_4 : decode cX11_fairOf 4 = .ok (.iconst 0, 1) := by decide +kernel
theorem dX11_fairOf_5 : decode cX11_fairOf 5 = .ok (.iload_n 1, 1) := by decide +kernel
theorem dX11_fairOf_6 : decode cX11_fairOf 6 = .ok (.invokevirtual 339, 3) := by decide +kernel
theorem dX11_fairOf_9 : decode cX11_fairOf 9 = .ok (.ifCond .eq 15, 3) := by decide +kernel
theorem dX11_fairOf_12 : decode cX11_fairOf 12 = .ok (.aload_n 0, 1) := by decide +kernel
theorem dX11_fairOf_13 : decode cX11_fairOf 13 = .ok (.getfield 10, 3) := by decide +kernel
theorem dX11_fairOf_16 : decode cX11_fairOf 16 = .ok (.getfield 343, 3) := by decide +kernel
theorem dX11_fairOf_19 : decode cX11_fairOf 19 = .ok (.iload_n 1, 1) := by decide +kernel
theorem dX11_fairOf_20 : decode cX11_fairOf 20 = .ok (.aaload, 1) := by decide +kernel
theorem dX11_fairOf_21 : decode cX11_fairOf 21 = .ok (.goto 4, 3) := by decide +kernel
theorem dX11_fairOf_24 : decode cX11_fairOf 24 = .ok (.aconst_null, 1) := by decide +kernel
theorem dX11_fairOf_25 : decode cX11_fairOf 25 = .ok (.areturn, 1) := by decide +kernel
theorem dX11_dayOf_0 : decode cX11_dayOf 0 = .ok (.aload_n 0, 1) := by decide +kernel
theorem dX11_dayOf_1 : decode cX11_dayOf 1 = .ok (.getfield 10, 3) := by decide +kernel
theorem dX11_dayOf_4 : decode cX11_dayOf 4 = .ok (.iconst 1, 1) := by decide +kernel
theorem dX11_dayOf_5 : decode cX11_dayOf 5 = .ok (.iload_n 1, 1) := by decide +kernel
theorem dX11_dayOf_6 : decode cX11_dayOf 6 = .ok (.invokevirtual 339, 3) := by decide +kernel
theorem dX11_dayOf_9 : decode cX11_dayOf 9 = .ok (.ifCond .eq 15, 3) := by decide +kernel
theorem dX11_dayOf_12 : decode cX11_dayOf 12 = .ok (.aload_n 0, 1) := by decide +kernel
theorem dX11_dayOf_13 : decode cX11_dayOf 13 = .ok (.getfield 10, 3) := by decide +kernel
theorem dX11_dayOf_16 : decode cX11_dayOf 16 = .ok (.getfield 347, 3) := by decide +kernel
theorem dX11_dayOf_19 : decode cX11_dayOf 19 = .ok (.iload_n 1, 1) := by decide +kernel
theorem dX11_dayOf_20 : decode cX11_dayOf 20 = .ok (.aaload, 1) := by decide +kernel
theorem dX11_dayOf_21 : decode cX11_dayOf 21 = .ok (.goto 4, 3) := by decide +kernel
theorem dX11_dayOf_24 : decode cX11_dayOf 24 = .ok (.aconst_null, 1) := by decide +kernel
theorem dX11_dayOf_25 : decode cX11_dayOf 25 = .ok (.areturn, 1) := by decide +kernel
theorem dX11_ledgerOf_0 : decode cX11_ledgerOf 0 = .ok (.aload_n 0, 1) := by decide +kernel
theorem dX11_ledgerOf_1 : decode cX11_ledgerOf 1 = .ok (.getfield 10, 3) := by decide +kernel
theorem dX11_ledgerOf_4 : decode cX11_ledgerOf 4 = .ok (.iconst 2, 1) := by decide +kernel
theorem dX11_ledgerOf_5 : decode cX11_ledgerOf 5 = .ok (.iload_n 1, 1) := by decide +kernel
theorem dX11_ledgerOf_6 : decode cX11_ledgerOf 6 = .ok (.invokevirtual 339, 3) := by decide +kernel
theorem dX11_ledgerOf_9 : decode cX11_ledgerOf 9 = .ok (.ifCond .eq 15, 3) := by decide +kernel
theorem dX11_ledgerOf_12 : decode cX11_ledgerOf 12 = .ok (.aload_n 0, 1) := by decide +kernel
theorem dX11_ledgerOf_13 : decode cX11_ledgerOf 13 = .ok (.getfield 10, 3) := by decide +kernel
theorem dX11_ledgerOf_16 : decode cX11_ledgerOf 16 = .ok (.getfield 351, 3) := by decide +kernel
theorem dX11_ledgerOf_19 : decode cX11_ledgerOf 19 = .ok (.iload_n 1, 1) := by decide +kernel
theorem dX11_ledgerOf_20 : decode cX11_ledgerOf 20 = .ok (.aaload, 1) := by decide +kernel
theorem dX11_ledgerOf_21 : decode cX11_ledgerOf 21 = .ok (.goto 4, 3) := by decide +kernel
theorem dX11_ledgerOf_24 : decode cX11_ledgerOf 24 = .ok (.aconst_null, 1) := by decide +kernel
theorem dX11_ledgerOf_25 : decode cX11_ledgerOf 25 = .ok (.areturn, 1) := by decide +kernel
