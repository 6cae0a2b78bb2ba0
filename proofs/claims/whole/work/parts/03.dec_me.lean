theorem dX12_twins_47 : decode cX12_twins 47 = .ok (.iadd, 1) := by decide +kernel
theorem dX12_twins_48 : decode cX12_twins 48 = .ok (.iaload, 1) := by decide +kernel
theorem dX12_twins_49 : decode cX12_twins 49 = .ok (.aload_n 0, 1) := by decide +kernel
theorem dX12_twins_50 : decode cX12_twins 50 = .ok (.getfield 47, 3) := by decide +kernel
theorem dX12_twins_53 : decode cX12_twins 53 = .ok (.bipush 6, 2) := by decide +kernel
theorem dX12_twins_55 : decode cX12_twins 55 = .ok (.iload_n 3, 1) := by decide +kernel
theorem dX12_twins_56 : decode cX12_twins 56 = .ok (.imul, 1) := by decide +kernel
theorem dX12_twins_57 : decode cX12_twins 57 = .ok (.iload 5, 2) := by decide +kernel
theorem dX12_twins_59 : decode cX12_twins 59 = .ok (.iadd, 1) := by decide +kernel
theorem dX12_twins_60 : decode cX12_twins 60 = .ok (.iaload, 1) := by decide +kernel
theorem dX12_twins_61 : decode cX12_twins 61 = .ok (.if_icmp .ne 7, 3) := by decide +kernel
theorem dX12_twins_64 : decode cX12_twins 64 = .ok (.iconst 1, 1) := by decide +kernel
theorem dX12_twins_65 : decode cX12_twins 65 = .ok (.goto 4, 3) := by decide +kernel
theorem dX12_twins_68 : decode cX12_twins 68 = .ok (.iconst 0, 1) := by decide +kernel
theorem dX12_twins_69 : decode cX12_twins 69 = .ok (.istore 4, 2) := by decide +kernel
theorem dX12_twins_71 : decode cX12_twins 71 = .ok (.iinc 5 1, 3) := by decide +kernel
theorem dX12_twins_74 : decode cX12_twins 74 = .ok (.goto (-49), 3) := by decide +kernel
theorem dX12_twins_77 : decode cX12_twins 77 = .ok (.iload_n 1, 1) := by decide +kernel
theorem dX12_twins_78 : decode cX12_twins 78 = .ok (.iload 4, 2) := by decide +kernel
theorem dX12_twins_80 : decode cX12_twins 80 = .ok (.ifCond .eq 7, 3) := by decide +kernel
theorem dX12_twins_83 : decode cX12_twins 83 = .ok (.iconst 1, 1) := by decide +kernel
theorem dX12_twins_84 : decode cX12_twins 84 = .ok (.goto 4, 3) := by decide +kernel
theorem dX12_twins_87 : decode cX12_twins 87 = .ok (.iconst 0, 1) := by decide +kernel
theorem dX12_twins_88 : decode cX12_twins 88 = .ok (.iadd, 1) := by decide +kernel
theorem dX12_twins_89 : decode cX12_twins 89 = .ok (.istore_n 1, 1) := by decide +kernel
theorem dX12_twins_90 : decode cX12_twins 90 = .ok (.iinc 3 1, 3) := by decide +kernel
theorem dX12_twins_93 : decode cX12_twins 93 = .ok (.goto (-79), 3) := by decide +kernel
theorem dX12_twins_96 : decode cX12_twins 96 = .ok (.iinc 2 1, 3) := by decide +kernel
theorem dX12_twins_99 : decode cX12_twins 99 = .ok (.goto (-95), 3) := by decide +kernel
theorem dX12_twins_102 : decode cX12_twins 102 = .ok (.iload_n 1, 1) := by decide +kernel
theorem dX12_twins_103 : decode cX12_twins 103 = .ok (.ireturn, 1) := by decide +kernel
theorem dX12_grace_0 : decode cX12_grace 0 = .ok (.aload_n 0, 1) := by decide +kernel
theorem dX12_grace_1 : decode cX12_grace 1 = .ok (.iconst 0, 1) := by decide +kernel
theorem dX12_grace_2 : decode cX12_grace 2 = .ok (.putfield 284, 3) := by decide +kernel
theorem dX12_grace_5 : decode cX12_grace 5 = .ok (.aload_n 0, 1) := by decide +kernel
theorem dX12_grace_6 : decode cX12_grace 6 = .ok (.invokevirtual 322, 3) := by decide +kernel
theorem dX12_grace_9 : decode cX12_grace 9 = .ok (.ifCond .eq 16, 3) := by decide +kernel
theorem dX12_grace_12 : decode cX12_grace 12 = .ok (.aload_n 0, 1) := by decide +kernel
theorem dX12_grace_13 : decode cX12_grace 13 = .ok (.dup, 1) := by decide +kernel
theorem dX12_grace_14 : decode cX12_grace 14 = .ok (.getfield 284, 3) := by decide +kernel
theorem dX12_grace_17 : decode cX12_grace 17 = .ok (.iconst 1, 1) := by decide +kernel
theorem dX12_grace_18 : decode cX12_grace 18 = .ok (.iadd, 1) := by decide +kernel
theorem dX12_grace_19 : decode cX12_grace 19 = .ok (.putfield 284, 3) := by decide +kernel
theorem dX12_grace_22 : decode cX12_grace 22 = .ok (.goto (-17), 3) := by decide +kernel
theorem dX12_grace_25 : decode cX12_grace 25 = .ok (.aload_n 0, 1) := by decide +kernel
theorem dX12_grace_26 : decode cX12_grace 26 = .ok (.getfield 284, 3) := by decide +kernel
theorem dX12_grace_29 : decode cX12_grace 29 = .ok (.ireturn, 1) := by decide +kernel
theorem dX12_deaf_0 : decode cX12_deaf 0 = .ok (.aload_n 0, 1) := by decide +kernel
theorem dX12_deaf_1 : decode cX12_deaf 1 = .ok (.iconst 0, 1) := by decide +kernel
theorem dX12_deaf_2 : decode cX12_deaf 2 = .ok (.putfield 287, 3) := by decide +kernel
theorem dX12_deaf_5 : decode cX12_deaf 5 = .ok (.aload_n 0, 1) := by decide +kernel
theorem dX12_deaf_6 : decode cX12_deaf 6 = .ok (.invokevirtual 322, 3) := by decide +kernel
theorem dX12_deaf_9 : decode cX12_deaf 9 = .ok (.ifCond .eq 16, 3) := by decide +kernel
theorem dX12_deaf_12 : decode cX12_deaf 12 = .ok (.aload_n 0, 1) := by decide +kernel
theorem dX12_deaf_13 : decode cX12_deaf 13 = .ok (.dup, 1) := by decide +kernel
theorem dX12_deaf_14 : decode cX12_deaf 14 = .ok (.getfield 287, 3) := by decide +kernel
theorem dX12_deaf_17 : decode cX12_deaf 17 = .ok (.iconst 1, 1) := by decide +kernel
theorem dX12_deaf_18 : decode cX12_deaf 18 = .ok (.iadd, 1) := by decide +kernel
theorem dX12_deaf_19 : decode cX12_deaf 19 = .ok (.putfield 287, 3) := by decide +kernel
theorem dX12_deaf_22 : decode cX12_deaf 22 = .ok (.goto (-17), 3) := by decide +kernel
theorem dX12_deaf_25 : decode cX12_deaf 25 = .ok (.aload_n 0, 1) := by decide +kernel
theorem dX12_deaf_26 : decode cX12_deaf 26 = .ok (.getfield 287, 3) := by decide +kernel
theorem dX12_deaf_29 : decode cX12_deaf 29 = .ok (.ireturn, 1) := by decide +kernel
theorem dX12_centre_0 : decode cX12_centre 0 = .ok (.aload_n 0, 1) := by decide +kernel
theorem dX12_centre_1 : decode cX12_centre 1 = .ok (.iconst 0, 1) := by decide +kernel
theorem dX12_centre_2 : decode cX12_centre 2 = .ok (.putfield 72, 3) := by decide +kernel
theorem dX12_centre_5 : decode cX12_centre 5 = .ok (.aload_n 0, 1) := by decide +kernel
theorem dX12_centre_6 : decode cX12_centre 6 = .ok (.iload_n 1, 1) := by decide +kernel
theorem dX12_centre_7 : decode cX12_centre 7 = .ok (.invokevirtual 300, 3) := by decide +kernel
theorem dX12_centre_10 : decode cX12_centre 10 = .ok (.ifCond .ne 6, 3) := by decide +kernel
theorem dX12_centre_13 : decode cX12_centre 13 = .ok (.bipush (-2), 2) := by decide +kernel
theorem dX12_centre_15 : decode cX12_centre 15 = .ok (.ireturn, 1) := by decide +kernel
theorem dX12_centre_16 : decode cX12_centre 16 = .ok (.iload_n 2, 1) := by decide +kernel
theorem dX12_centre_17 : decode cX12_centre 17 = .ok (.tableswitch 88 0 6 #[43, 43, 58, 58, 73, 78, 83], 43) := by decide +kernel
theorem dX12_centre_60 : decode cX12_centre 60 = .ok (.aload_n 0, 1) := by decide +kernel
theorem dX12_centre_61 : decode cX12_centre 61 = .ok (.iload_n 2, 1) := by decide +kernel
theorem dX12_centre_62 : decode cX12_centre 62 = .ok (.iconst 1, 1) := by decide +kernel
theorem dX12_centre_63 : decode cX12_centre 63 = .ok (.if_icmp .ne 7, 3) := by decide +kernel
theorem dX12_centre_66 : decode cX12_centre 66 = .ok (.iconst 1, 1) := by decide +kernel
theorem dX12_centre_67 : decode cX12_centre 67 = .ok (.goto 4, 3) := by decide +kernel
theorem dX12_centre_70 : decode cX12_centre 70 = .ok (.iconst 0, 1) := by decide +kernel
theorem dX12_centre_71 : decode cX12_centre 71 = .ok (.invokevirtual 514, 3) := by decide +kernel
theorem dX12_centre_74 : decode cX12_centre 74 = .ok (.ireturn, 1) := by decide +kernel
theorem dX12_centre_75 : decode cX12_centre 75 = .ok (.aload_n 0, 1) := by decide +kernel
theorem dX12_centre_76 : decode cX12_centre 76 = .ok (.iload_n 2, 1) := by decide +kernel
theorem dX12_centre_77 : decode cX12_centre 77 = .ok (.iconst 3, 1) := by decide +kernel
theorem dX12_centre_78 : decode cX12_centre 78 = .ok (.if_icmp .ne 7, 3) := by decide +kernel
theorem dX12_centre_81 : decode cX12_centre 81 = .ok (.iconst 1, 1) := by decide +kernel
theorem dX12_centre_82 : decode cX12_centre 82 = .ok (.goto 4, 3) := by decide +kernel
theorem dX12_centre_85 : decode cX12_centre 85 = .ok (.iconst 0, 1) := by decide +kernel
theorem dX12_centre_86 : decode cX12_centre 86 = .ok (.invokevirtual 517, 3) := by decide +kernel
theorem dX12_centre_89 : decode cX12_centre 89 = .ok (.ireturn, 1) := by decide +kernel
theorem dX12_centre_90 : decode cX12_centre 90 = .ok (.aload_n 0, 1) := by decide +kernel
theorem dX12_centre_91 : decode cX12_centre 91 = .ok (.invokevirtual 520, 3) := by decide +kernel
theorem dX12_centre_94 : decode cX12_centre 94 = .ok (.ireturn, 1) := by decide +kernel
theorem dX12_centre_95 : decode cX12_centre 95 = .ok (.aload_n 0, 1) := by decide +kernel
theorem dX12_centre_96 : decode cX12_centre 96 = .ok (.invokevirtual 523, 3) := by decide +kernel
theorem dX12_centre_99 : decode cX12_centre 99 = .ok (.ireturn, 1) := by decide +kernel
theorem dX12_centre_100 : decode cX12_centre 100 = .ok (.aload_n 0, 1) := by decide +kernel
theorem dX12_centre_101 : decode cX12_centre 101 = .ok (.invokevirtual 526, 3) := by decide +kernel
theorem dX12_centre_104 : decode cX12_centre 104 = .ok (.ireturn, 1) := by decide +kernel
theorem dX12_centre_105 : decode cX12_centre 105 = .ok (.bipush (-2), 2) := by decide +kernel
theorem dX12_centre_107 : decode cX12_centre 107 = .ok (.ireturn, 1) := by decide +kernel
theorem dX12_ring_0 : decode cX12_ring 0 = .ok (.aload_n 0, 1) := by decide +kernel
theorem dX12_ring_1 : decode cX12_ring 1 = .ok (.iconst 0, 1) := by decide +kernel
theorem dX12_ring_2 : decode cX12_ring 2 = .ok (.putfield 72, 3) := by decide +kernel
theorem dX12_ring_5 : decode cX12_ring 5 = .ok (.iload_n 2, 1) := by decide +kernel
theorem dX12_ring_6 : decode cX12_ring 6 = .ok (.iconst 0, 1) := by decide +kernel
theorem dX12_ring_7 : decode cX12_ring 7 = .ok (.bipush 18, 2) := by decide +kernel
theorem dX12_ring_9 : decode cX12_ring 9 = .ok (.invokestatic 84, 3) := by decide +kernel
theorem dX12_ring_12 : decode cX12_ring 12 = .ok (.ifCond .eq 11, 3) := by decide +kernel
theorem dX12_ring_15 : decode cX12_ring 15 = .ok (.aload_n 0, 1) := by decide +kernel
theorem dX12_ring_16 : decode cX12_ring 16 = .ok (.iload_n 1, 1) := by decide +kernel
theorem dX12_ring_17 : decode cX12_ring 17 = .ok (.invokevirtual 300, 3) := by decide +kernel
theorem dX12_ring_20 : decode cX12_ring 20 = .ok (.ifCond .ne 5, 3) := by decide +kernel
theorem dX12_ring_23 : decode cX12_ring 23 = .ok (.iconst (-1), 1) := by decide +kernel
theorem dX12_ring_24 : decode cX12_ring 24 = .ok (.ireturn, 1) := by decide +kernel
theorem dX12_ring_25 : decode cX12_ring 25 = .ok (.iconst 0, 1) := by decide +kernel
theorem dX12_ring_26 : decode cX12_ring 26 = .ok (.istore_n 3, 1) := by decide +kernel
theorem dX12_ring_27 : decode cX12_ring 27 = .ok (.iconst 0, 1) := by decide +kernel
theorem dX12_ring_28 : decode cX12_ring 28 = .ok (.istore 4, 2) := by decide +kernel
theorem dX12_ring_30 : decode cX12_ring 30 = .ok (.iload 4, 2) := by decide +kernel
theorem dX12_ring_32 : decode cX12_ring 32 = .ok (.aload_n 0, 1) := by decide +kernel
theorem dX12_ring_33 : decode cX12_ring 33 = .ok (.getfield 251, 3) := by decide +kernel
theorem dX12_ring_36 : decode cX12_ring 36 = .ok (.if_icmp .ge 30, 3) := by decide +kernel
theorem dX12_ring_39 : decode cX12_ring 39 = .ok (.iload_n 3, 1) := by decide +kernel
theorem dX12_ring_40 : decode cX12_ring 40 = .ok (.aload_n 0, 1) := by decide +kernel
theorem dX12_ring_41 : decode cX12_ring 41 = .ok (.iload 4, 2) := by decide +kernel
theorem dX12_ring_43 : decode cX12_ring 43 = .ok (.invokevirtual 294, 3) := by decide +kernel
theorem dX12_ring_46 : decode cX12_ring 46 = .ok (.iload_n 2, 1) := by decide +kernel
theorem dX12_ring_47 : decode cX12_ring 47 = .ok (.if_icmp .gt 10, 3) := by decide +kernel
theorem dX12_ring_50 : decode cX12_ring 50 = .ok (.iconst 1, 1) := by decide +kernel
theorem dX12_ring_51 : decode cX12_ring 51 = .ok (.iload 4, 2) := by decide +kernel
theorem dX12_ring_53 : decode cX12_ring 53 = .ok (.ishl, 1) := by decide +kernel
theorem dX12_ring_54 : decode cX12_ring 54 = .ok (.goto 4, 3) := by decide +kernel
theorem dX12_ring_57 : decode cX12_ring 57 = .ok (.iconst 0, 1) := by decide +kernel
theorem dX12_ring_58 : decode cX12_ring 58 = .ok (.ior, 1) := by decide +kernel
theorem dX12_ring_59 : decode cX12_ring 59 = .ok (.istore_n 3, 1) := by decide +kernel
theorem dX12_ring_60 : decode cX12_ring 60 = .ok (.iinc 4 1, 3) := by decide +kernel
theorem dX12_ring_63 : decode cX12_ring 63 = .ok (.goto (-33), 3) := by decide +kernel
theorem dX12_ring_66 : decode cX12_ring 66 = .ok (.iload_n 3, 1) := by decide +kernel
theorem dX12_ring_67 : decode cX12_ring 67 = .ok (.ireturn, 1) := by decide +kernel
theorem dX12_isRung_0 : decode cX12_isRung 0 = .ok (.iconst 0, 1) := by decide +kernel
theorem dX12_isRung_1 : decode cX12_isRung 1 = .ok (.istore_n 3, 1) := by decide +kernel
theorem dX12_isRung_2 : decode cX12_isRung 2 = .ok (.iconst 0, 1) := by decide +kernel
theorem dX12_isRung_3 : decode cX12_isRung 3 = .ok (.istore 4, 2) := by decide +kernel
theorem dX12_isRung_5 : decode cX12_isRung 5 = .ok (.iload 4, 2) := by decide +kernel
theorem dX12_isRung_7 : decode cX12_isRung 7 = .ok (.bipush 6, 2) := by decide +kernel
theorem dX12_isRung_9 : decode cX12_isRung 9 = .ok (.if_icmp .ge 58, 3) := by decide +kernel
theorem dX12_isRung_12 : decode cX12_isRung 12 = .ok (.aload_n 0, 1) := by decide +kernel
theorem dX12_isRung_13 : decode cX12_isRung 13 = .ok (.getfield 47, 3) := by decide +kernel
theorem dX12_isRung_16 : decode cX12_isRung 16 = .ok (.bipush 6, 2) := by decide +kernel
theorem dX12_isRung_18 : decode cX12_isRung 18 = .ok (.iload_n 2, 1) := by decide +kernel
theorem dX12_isRung_19 : decode cX12_isRung 19 = .ok (.imul, 1) := by decide +kernel
theorem dX12_isRung_20 : decode cX12_isRung 20 = .ok (.iload 4, 2) := by decide +kernel
theorem dX12_isRung_22 : decode cX12_isRung 22 = .ok (.iadd, 1) := by decide +kernel
theorem dX12_isRung_23 : decode cX12_isRung 23 = .ok (.iaload, 1) := by decide +kernel
theorem dX12_isRung_24 : decode cX12_isRung 24 = .ok (.aload_n 0, 1) := by decide +kernel
theorem dX12_isRung_25 : decode cX12_isRung 25 = .ok (.getfield 47, 3) := by decide +kernel
theorem dX12_isRung_28 : decode cX12_isRung 28 = .ok (.bipush 6, 2) := by decide +kernel
theorem dX12_isRung_30 : decode cX12_isRung 30 = .ok (.iload_n 1, 1) := by decide +kernel
theorem dX12_isRung_31 : decode cX12_isRung 31 = .ok (.imul, 1) := by decide +kernel
theorem dX12_isRung_32 : decode cX12_isRung 32 = .ok (.iload 4, 2) := by decide +kernel
theorem dX12_isRung_34 : decode cX12_isRung 34 = .ok (.iadd, 1) := by decide +kernel
theorem dX12_isRung_35 : decode cX12_isRung 35 = .ok (.iaload, 1) := by decide +kernel
theorem dX12_isRung_36 : decode cX12_isRung 36 = .ok (.isub, 1) := by decide +kernel
theorem dX12_isRung_37 : decode cX12_isRung 37 = .ok (.istore 5, 2) := by decide +kernel
theorem dX12_isRung_39 : decode cX12_isRung 39 = .ok (.iload 5, 2) := by decide +kernel
theorem dX12_isRung_41 : decode cX12_isRung 41 = .ok (.ifCond .ge 5, 3) := by decide +kernel
theorem dX12_isRung_44 : decode cX12_isRung 44 = .ok (.iconst 0, 1) := by decide +kernel
theorem dX12_isRung_45 : decode cX12_isRung 45 = .ok (.ireturn, 1) := by decide +kernel
theorem dX12_isRung_46 : decode cX12_isRung 46 = .ok (.iload_n 3, 1) := by decide +kernel
theorem dX12_isRung_47 : decode cX12_isRung 47 = .ok (.ifCond .ne 8, 3) := by decide +kernel
theorem dX12_isRung_50 : decode cX12_isRung 50 = .ok (.iload 5, 2) := by decide +kernel
theorem dX12_isRung_52 : decode cX12_isRung 52 = .ok (.ifCond .le 7, 3) := by decide +kernel
theorem dX12_isRung_55 : decode cX12_isRung 55 = .ok (.iconst 1, 1) := by decide +kernel
theorem dX12_isRung_56 : decode cX12_isRung 56 = .ok (.goto 4, 3) := by decide +kernel
theorem dX12_isRung_59 : decode cX12_isRung 59 = .ok (.iconst 0, 1) := by decide +kernel
theorem dX12_isRung_60 : decode cX12_isRung 60 = .ok (.istore_n 3, 1) := by decide +kernel
theorem dX12_isRung_61 : decode cX12_isRung 61 = .ok (.iinc 4 1, 3) := by decide +kernel
theorem dX12_isRung_64 : decode cX12_isRung 64 = .ok (.goto (-59), 3) := by decide +kernel
theorem dX12_isRung_67 : decode cX12_isRung 67 = .ok (.iload_n 3, 1) := by decide +kernel
theorem dX12_isRung_68 : decode cX12_isRung 68 = .ok (.ireturn, 1) := by decide +kernel
theorem dX12_findRungs_0 : decode cX12_findRungs 0 = .ok (.iconst 0, 1) := by decide +kernel
theorem dX12_findRungs_1 : decode cX12_findRungs 1 = .ok (.istore_n 1, 1) := by decide +kernel
theorem dX12_findRungs_2 : decode cX12_findRungs 2 = .ok (.iload_n 1, 1) := by decide +kernel
theorem dX12_findRungs_3 : decode cX12_findRungs 3 = .ok (.bipush 8, 2) := by decide +kernel
theorem dX12_findRungs_5 : decode cX12_findRungs 5 = .ok (.if_icmp .ge 28, 3) := by decide +kernel
theorem dX12_findRungs_8 : decode cX12_findRungs 8 = .ok (.aload_n 0, 1) := by decide +kernel
theorem dX12_findRungs_9 : decode cX12_findRungs 9 = .ok (.getfield 65, 3) := by decide +kernel
theorem dX12_findRungs_12 : decode cX12_findRungs 12 = .ok (.iload_n 1, 1) := by decide +kernel
theorem dX12_findRungs_13 : decode cX12_findRungs 13 = .ok (.iload_n 1, 1) := by decide +kernel
theorem dX12_findRungs_14 : decode cX12_findRungs 14 = .ok (.aload_n 0, 1) := by decide +kernel
theorem dX12_findRungs_15 : decode cX12_findRungs 15 = .ok (.getfield 251, 3) := by decide +kernel
theorem dX12_findRungs_18 : decode cX12_findRungs 18 = .ok (.if_icmp .ge 7, 3) := by decide +kernel
theorem dX12_findRungs_21 : decode cX12_findRungs 21 = .ok (.iconst 1, 1) := by decide +kernel
theorem dX12_findRungs_22 : decode cX12_findRungs 22 = .ok (.goto 4, 3) := by decide +kernel
theorem dX12_findRungs_25 : decode cX12_findRungs 25 = .ok (.iconst 0, 1) := by decide +kernel
theorem dX12_findRungs_26 : decode cX12_findRungs 26 = .ok (.iastore, 1) := by decide +kernel
theorem dX12_findRungs_27 : decode cX12_findRungs 27 = .ok (.iinc 1 1, 3) := by decide +kernel
theorem dX12_findRungs_30 : decode cX12_findRungs 30 = .ok (.goto (-28), 3) := by decide +kernel
theorem dX12_findRungs_33 : decode cX12_findRungs 33 = .ok (.iconst 0, 1) := by decide +kernel
theorem dX12_findRungs_34 : decode cX12_findRungs 34 = .ok (.istore_n 1, 1) := by decide +kernel
theorem dX12_findRungs_35 : decode cX12_findRungs 35 = .ok (.iload_n 1, 1) := by decide +kernel
theorem dX12_findRungs_36 : decode cX12_findRungs 36 = .ok (.bipush 8, 2) := by decide +kernel
theorem dX12_findRungs_38 : decode cX12_findRungs 38 = .ok (.if_icmp .ge 82, 3) := by decide +kernel
theorem dX12_findRungs_41 : decode cX12_findRungs 41 = .ok (.iconst 0, 1) := by decide +kernel
theorem dX12_findRungs_42 : decode cX12_findRungs 42 = .ok (.istore_n 2, 1) := by decide +kernel
theorem dX12_findRungs_43 : decode cX12_findRungs 43 = .ok (.iload_n 2, 1) := by decide +kernel
theorem dX12_findRungs_44 : decode cX12_findRungs 44 = .ok (.aload_n 0, 1) := by decide +kernel
theorem dX12_findRungs_45 : decode cX12_findRungs 45 = .ok (.getfield 251, 3) := by decide +kernel
theorem dX12_findRungs_48 : decode cX12_findRungs 48 = .ok (.if_icmp .ge 66, 3) := by decide +kernel
theorem dX12_findRungs_51 : decode cX12_findRungs 51 = .ok (.iconst 0, 1) := by decide +kernel
theorem dX12_findRungs_52 : decode cX12_findRungs 52 = .ok (.istore_n 3, 1) := by decide +kernel
theorem dX12_findRungs_53 : decode cX12_findRungs 53 = .ok (.iload_n 3, 1) := by decide +kernel
theorem dX12_findRungs_54 : decode cX12_findRungs 54 = .ok (.aload_n 0, 1) := by decide +kernel
theorem dX12_findRungs_55 : decode cX12_findRungs 55 = .ok (.getfield 251, 3) := by decide +kernel
theorem dX12_findRungs_58 : decode cX12_findRungs 58 = .ok (.if_icmp .ge 50, 3) := by decide +kernel
theorem dX12_findRungs_61 : decode cX12_findRungs 61 = .ok (.aload_n 0, 1) := by decide +kernel
theorem dX12_findRungs_62 : decode cX12_findRungs 62 = .ok (.getfield 65, 3) := by decide +kernel
theorem dX12_findRungs_65 : decode cX12_findRungs 65 = .ok (.iload_n 2, 1) := by decide +kernel
theorem dX12_findRungs_66 : decode cX12_findRungs 66 = .ok (.aload_n 0, 1) := by decide +kernel
theorem dX12_findRungs_67 : decode cX12_findRungs 67 = .ok (.iload_n 2, 1) := by decide +kernel
theorem dX12_findRungs_68 : decode cX12_findRungs 68 = .ok (.iload_n 3, 1) := by decide +kernel
theorem dX12_findRungs_69 : decode cX12_findRungs 69 = .ok (.invokevirtual 529, 3) := by decide +kernel
theorem dX12_findRungs_72 : decode cX12_findRungs 72 = .ok (.ifCond .eq 23, 3) := by decide +kernel
theorem dX12_findRungs_75 : decode cX12_findRungs 75 = .ok (.aload_n 0, 1) := by decide +kernel
theorem dX12_findRungs_76 : decode cX12_findRungs 76 = .ok (.getfield 65, 3) := by decide +kernel
theorem dX12_findRungs_79 : decode cX12_findRungs 79 = .ok (.iload_n 2, 1) := by decide +kernel
theorem dX12_findRungs_80 : decode cX12_findRungs 80 = .ok (.iaload, 1) := by decide +kernel
theorem dX12_findRungs_81 : decode cX12_findRungs 81 = .ok (.iconst 1, 1) := by decide +kernel
theorem dX12_findRungs_82 : decode cX12_findRungs 82 = .ok (.aload_n 0, 1) := by decide +kernel
theorem dX12_findRungs_83 : decode cX12_findRungs 83 = .ok (.getfield 65, 3) := by decide +kernel
theorem dX12_findRungs_86 : decode cX12_findRungs 86 = .ok (.iload_n 3, 1) := by decide +kernel
theorem dX12_findRungs_87 : decode cX12_findRungs 87 = .ok (.iaload, 1) := by decide +kernel
theorem dX12_findRungs_88 : decode cX12_findRungs 88 = .ok (.iadd, 1) := by decide +kernel
theorem dX12_findRungs_89 : decode cX12_findRungs 89 = .ok (.invokestatic 153, 3) := by decide +kernel
theorem dX12_findRungs_92 : decode cX12_findRungs 92 = .ok (.goto 9, 3) := by decide +kernel
theorem dX12_findRungs_95 : decode cX12_findRungs 95 = .ok (.aload_n 0, 1) := by decide +kernel
theorem dX12_findRungs_96 : decode cX12_findRungs 96 = .ok (.getfield 65, 3) := by decide +kernel
theorem dX12_findRungs_99 : decode cX12_findRungs 99 = .ok (.iload_n 2, 1) := by decide +kernel
theorem dX12_findRungs_100 : decode cX12_findRungs 100 = .ok (.iaload, 1) := by decide +kernel
theorem dX12_findRungs_101 : decode cX12_findRungs 101 = .ok (.iastore, 1) := by decide +kernel
theorem dX12_findRungs_102 : decode cX12_findRungs 102 = .ok (.iinc 3 1, 3) := by decide +kernel
theorem dX12_findRungs_105 : decode cX12_findRungs 105 = .ok (.goto (-52), 3) := by decide +kernel
theorem dX12_findRungs_108 : decode cX12_findRungs 108 = .ok (.iinc 2 1, 3) := by decide +kernel
theorem dX12_findRungs_111 : decode cX12_findRungs 111 = .ok (.goto (-68), 3) := by decide +kernel
theorem dX12_findRungs_114 : decode cX12_findRungs 114 = .ok (.iinc 1 1, 3) := by decide +kernel
theorem dX12_findRungs_117 : decode cX12_findRungs 117 = .ok (.goto (-82), 3) := by decide +kernel
theorem dX12_findRungs_120 : decode cX12_findRungs 120 = .ok (.return_, 1) := by decide +kernel
theorem dX12_ladder_0 : decode cX12_ladder 0 = .ok (.aload_n 0, 1) := by decide +kernel
theorem dX12_ladder_1 : decode cX12_ladder 1 = .ok (.iconst 0, 1) := by decide +kernel
theorem dX12_ladder_2 : decode cX12_ladder 2 = .ok (.putfield 72, 3) := by decide +kernel
theorem dX12_ladder_5 : decode cX12_ladder 5 = .ok (.aload_n 0, 1) := by decide +kernel
theorem dX12_ladder_6 : decode cX12_ladder 6 = .ok (.iload_n 1, 1) := by decide +kernel
theorem dX12_ladder_7 : decode cX12_ladder 7 = .ok (.invokevirtual 300, 3) := by decide +kernel
theorem dX12_ladder_10 : decode cX12_ladder 10 = .ok (.ifCond .ne 5, 3) := by decide +kernel
theorem dX12_ladder_13 : decode cX12_ladder 13 = .ok (.iconst (-1), 1) := by decide +kernel
theorem dX12_ladder_14 : decode cX12_ladder 14 = .ok (.ireturn, 1) := by decide +kernel
theorem dX12_ladder_15 : decode cX12_ladder 15 = .ok (.aload_n 0, 1) := by decide +kernel
theorem dX12_ladder_16 : decode cX12_ladder 16 = .ok (.invokevirtual 532, 3) := by decide +kernel
theorem dX12_ladder_19 : decode cX12_ladder 19 = .ok (.iconst 0, 1) := by decide +kernel
theorem dX12_ladder_20 : decode cX12_ladder 20 = .ok (.istore_n 3, 1) := by decide +kernel
theorem dX12_ladder_21 : decode cX12_ladder 21 = .ok (.iconst 0, 1) := by decide +kernel
theorem dX12_ladder_22 : decode cX12_ladder 22 = .ok (.istore 4, 2) := by decide +kernel
theorem dX12_ladder_24 : decode cX12_ladder 24 = .ok (.iload 4, 2) := by decide +kernel
theorem dX12_ladder_26 : decode cX12_ladder 26 = .ok (.aload_n 0, 1) := by decide +kernel
theorem dX12_ladder_27 : decode cX12_ladder 27 = .ok (.getfield 251, 3) := by decide +kernel
theorem dX12_ladder_30 : decode cX12_ladder 30 = .ok (.if_icmp .ge 21, 3) := by decide +kernel
theorem dX12_ladder_33 : decode cX12_ladder 33 = .ok (.iload_n 3, 1) := by decide +kernel
theorem dX12_ladder_34 : decode cX12_ladder 34 = .ok (.aload_n 0, 1) := by decide +kernel
theorem dX12_ladder_35 : decode cX12_ladder 35 = .ok (.getfield 65, 3) := by decide +kernel
theorem dX12_ladder_38 : decode cX12_ladder 38 = .ok (.iload 4, 2) := by decide +kernel
theorem dX12_ladder_40 : decode cX12_ladder 40 = .ok (.iaload, 1) := by decide +kernel
theorem dX12_ladder_41 : decode cX12_ladder 41 = .ok (.invokestatic 153, 3) := by decide +kernel
theorem dX12_ladder_44 : decode cX12_ladder 44 = .ok (.istore_n 3, 1) := by decide +kernel
theorem dX12_ladder_45 : decode cX12_ladder 45 = .ok (.iinc 4 1, 3) := by decide +kernel
theorem dX12_ladder_48 : decode cX12_ladder 48 = .ok (.goto (-24), 3) := by decide +kernel
theorem dX12_ladder_51 : decode cX12_ladder 51 = .ok (.iload_n 2, 1) := by decide +kernel
theorem dX12_ladder_52 : decode cX12_ladder 52 = .ok (.iconst (-1), 1) := by decide +kernel
theorem dX12_ladder_53 : decode cX12_ladder 53 = .ok (.if_icmp .eq 14, 3) := by decide +kernel
theorem dX12_ladder_56 : decode cX12_ladder 56 = .ok (.iload_n 2, 1) := by decide +kernel
theorem dX12_ladder_57 : decode cX12_ladder 57 = .ok (.iconst 0, 1) := by decide +kernel
theorem dX12_ladder_58 : decode cX12_ladder 58 = .ok (.iload_n 3, 1) := by decide +kernel
theorem dX12_ladder_59 : decode cX12_ladder 59 = .ok (.iconst 1, 1) := by decide +kernel
theorem dX12_ladder_60 : decode cX12_ladder 60 = .ok (.isub, 1) := by decide +kernel
theorem dX12_ladder_61 : decode cX12_ladder 61 = .ok (.invokestatic 84, 3) := by decide +kernel
theorem dX12_ladder_64 : decode cX12_ladder 64 = .ok (.ifCond .ne 14, 3) := by decide +kernel
theorem dX12_ladder_67 : decode cX12_ladder 67 = .ok (.iload_n 2, 1) := by decide +kernel
theorem dX12_ladder_68 : decode cX12_ladder 68 = .ok (.iconst (-1), 1) := by decide +kernel
theorem dX12_ladder_69 : decode cX12_ladder 69 = .ok (.if_icmp .ne 7, 3) := by decide +kernel
theorem dX12_ladder_72 : decode cX12_ladder 72 = .ok (.iload_n 3, 1) := by decide +kernel
theorem dX12_ladder_73 : decode cX12_ladder 73 = .ok (.goto 4, 3) := by decide +kernel
theorem dX12_ladder_76 : decode cX12_ladder 76 = .ok (.iconst (-1), 1) := by decide +kernel
theorem dX12_ladder_77 : decode cX12_ladder 77 = .ok (.ireturn, 1) := by decide +kernel
theorem dX12_ladder_78 : decode cX12_ladder 78 = .ok (.iconst (-1), 1) := by decide +kernel
theorem dX12_ladder_79 : decode cX12_ladder 79 = .ok (.istore 4, 2) := by decide +kernel
theorem dX12_ladder_81 : decode cX12_ladder 81 = .ok (.iconst 0, 1) := by decide +kernel
theorem dX12_ladder_82 : decode cX12_ladder 82 = .ok (.istore 5, 2) := by decide +kernel
theorem dX12_ladder_84 : decode cX12_ladder 84 = .ok (.iload 5, 2) := by decide +kernel
theorem dX12_ladder_86 : decode cX12_ladder 86 = .ok (.iload_n 2, 1) := by decide +kernel
theorem dX12_ladder_87 : decode cX12_ladder 87 = .ok (.if_icmp .gt 53, 3) := by decide +kernel
theorem dX12_ladder_90 : decode cX12_ladder 90 = .ok (.iconst 0, 1) := by decide +kernel
theorem dX12_ladder_91 : decode cX12_ladder 91 = .ok (.istore 6, 2) := by decide +kernel
theorem dX12_ladder_93 : decode cX12_ladder 93 = .ok (.aload_n 0, 1) := by decide +kernel
theorem dX12_ladder_94 : decode cX12_ladder 94 = .ok (.getfield 65, 3) := by decide +kernel
theorem dX12_ladder_97 : decode cX12_ladder 97 = .ok (.iload 6, 2) := by decide +kernel
theorem dX12_ladder_99 : decode cX12_ladder 99 = .ok (.iaload, 1) := by decide +kernel
theorem dX12_ladder_100 : decode cX12_ladder 100 = .ok (.iload_n 3, 1) := by decide +kernel
theorem dX12_ladder_101 : decode cX12_ladder 101 = .ok (.iload 5, 2) := by decide +kernel
theorem dX12_ladder_103 : decode cX12_ladder 103 = .ok (.isub, 1) := by decide +kernel
theorem dX12_ladder_104 : decode cX12_ladder 104 = .ok (.if_icmp .ne 20, 3) := by decide +kernel
theorem dX12_ladder_107 : decode cX12_ladder 107 = .ok (.iload 4, 2) := by decide +kernel
theorem dX12_ladder_109 : decode cX12_ladder 109 = .ok (.iconst (-1), 1) := by decide +kernel
theorem dX12_ladder_110 : decode cX12_ladder 110 = .ok (.if_icmp .eq 20, 3) := by decide +kernel
theorem dX12_ladder_113 : decode cX12_ladder 113 = .ok (.aload_n 0, 1) := by decide +kernel
theorem dX12_ladder_114 : decode cX12_ladder 114 = .ok (.iload 4, 2) := by decide +kernel
theorem dX12_ladder_116 : decode cX12_ladder 116 = .ok (.iload 6, 2) := by decide +kernel
theorem dX12_ladder_118 : decode cX12_ladder 118 = .ok (.invokevirtual 529, 3) := by decide +kernel
theorem dX12_ladder_121 : decode cX12_ladder 121 = .ok (.ifCond .ne 9, 3) := by decide +kernel
theorem dX12_ladder_124 : decode cX12_ladder 124 = .ok (.iinc 6 1, 3) := by decide +kernel
theorem dX12_ladder_127 : decode cX12_ladder 127 = .ok (.goto (-34), 3) := by decide +kernel
theorem dX12_ladder_130 : decode cX12_ladder 130 = .ok (.iload 6, 2) := by decide +kernel
theorem dX12_ladder_132 : decode cX12_ladder 132 = .ok (.istore 4, 2) := by decide +kernel
theorem dX12_ladder_134 : decode cX12_ladder 134 = .ok (.iinc 5 1, 3) := by decide +kernel
theorem dX12_ladder_137 : decode cX12_ladder 137 = .ok (.goto (-53), 3) := by decide +kernel
theorem dX12_ladder_140 : decode cX12_ladder 140 = .ok (.iload 4, 2) := by decide +kernel
theorem dX12_ladder_142 : decode cX12_ladder 142 = .ok (.ireturn, 1) := by decide +kernel
theorem dX12_next_0 : decode cX12_next 0 = .ok (.aload_n 0, 1) := by decide +kernel
theorem dX12_next_1 : decode cX12_next 1 = .ok (.iconst 0, 1) := by decide +kernel
theorem dX12_next_2 : decode cX12_next 2 = .ok (.putfield 72, 3) := by decide +kernel
theorem dX12_next_5 : decode cX12_next 5 = .ok (.iload_n 2, 1) := by decide +kernel
theorem dX12_next_6 : decode cX12_next 6 = .ok (.iconst 0, 1) := by decide +kernel
theorem dX12_next_7 : decode cX12_next 7 = .ok (.bipush 99, 2) := by decide +kernel
theorem dX12_next_9 : decode cX12_next 9 = .ok (.invokestatic 84, 3) := by decide +kernel
theorem dX12_next_12 : decode cX12_next 12 = .ok (.ifCond .eq 18, 3) := by decide +kernel
theorem dX12_next_15 : decode cX12_next 15 = .ok (.aload_n 0, 1) := by decide +kernel
theorem dX12_next_16 : decode cX12_next 16 = .ok (.iload_n 1, 1) := by decide +kernel
theorem dX12_next_17 : decode cX12_next 17 = .ok (.invokevirtual 300, 3) := by decide +kernel
theorem dX12_next_20 : decode cX12_next 20 = .ok (.ifCond .eq 10, 3) := by decide +kernel
theorem dX12_next_23 : decode cX12_next 23 = .ok (.aload_n 0, 1) := by decide +kernel
theorem dX12_next_24 : decode cX12_next 24 = .ok (.invokevirtual 322, 3) := by decide +kernel
theorem dX12_next_27 : decode cX12_next 27 = .ok (.ifCond .eq 5, 3) := by decide +kernel
theorem dX12_next_30 : decode cX12_next 30 = .ok (.iconst (-1), 1) := by decide +kernel
theorem dX12_next_31 : decode cX12_next 31 = .ok (.ireturn, 1) := by decide +kernel
theorem dX12_next_32 : decode cX12_next 32 = .ok (.iload_n 2, 1) := by decide +kernel
theorem dX12_next_33 : decode cX12_next 33 = .ok (.iconst 1, 1) := by decide +kernel
theorem dX12_next_34 : decode cX12_next 34 = .ok (.iadd, 1) := by decide +kernel
theorem dX12_next_35 : decode cX12_next 35 = .ok (.istore_n 3, 1) := by decide +kernel
theorem dX12_next_36 : decode cX12_next 36 = .ok (.iload_n 3, 1) := by decide +kernel
theorem dX12_next_37 : decode cX12_next 37 = .ok (.bipush 99, 2) := by decide +kernel
theorem dX12_next_39 : decode cX12_next 39 = .ok (.if_icmp .gt 19, 3) := by decide +kernel
theorem dX12_next_42 : decode cX12_next 42 = .ok (.aload_n 0, 1) := by decide +kernel
theorem dX12_next_43 : decode cX12_next 43 = .ok (.iload_n 3, 1) := by decide +kernel
theorem dX12_next_44 : decode cX12_next 44 = .ok (.invokevirtual 325, 3) := by decide +kernel
theorem dX12_next_47 : decode cX12_next 47 = .ok (.ifCond .ne 5, 3) := by decide +kernel
theorem dX12_next_50 : decode cX12_next 50 = .ok (.iload_n 3, 1) := by decide +kernel
theorem dX12_next_51 : decode cX12_next 51 = .ok (.ireturn, 1) := by decide +kernel
theorem dX12_next_52 : decode cX12_next 52 = .ok (.iinc 3 1, 3) := by decide +kernel
theorem dX12_next_55 : decode cX12_next 55 = .ok (.goto (-19), 3) := by decide +kernel
theorem dX12_next_58 : decode cX12_next 58 = .ok (.iconst (-1), 1) := by decide +kernel
theorem dX12_next_59 : decode cX12_next 59 = .ok (.ireturn, 1) := by decide +kernel
theorem dX12_purse_0 : decode cX12_purse 0 = .ok (.aload_n 0, 1) := by decide +kernel
theorem dX12_purse_1 : decode cX12_purse 1 = .ok (.iconst 0, 1) := by decide +kernel
theorem dX12_purse_2 : decode cX12_purse 2 = .ok (.putfield 72, 3) := by decide +kernel
theorem dX12_purse_5 : decode cX12_purse 5 = .ok (.iload_n 2, 1) := by decide +kernel
theorem dX12_purse_6 : decode cX12_purse 6 = .ok (.iconst 0, 1) := by decide +kernel
theorem dX12_purse_7 : decode cX12_purse 7 = .ok (.bipush 99, 2) := by decide +kernel
theorem dX12_purse_9 : decode cX12_purse 9 = .ok (.invokestatic 84, 3) := by decide +kernel
theorem dX12_purse_12 : decode cX12_purse 12 = .ok (.ifCond .eq 11, 3) := by decide +kernel
theorem dX12_purse_15 : decode cX12_purse 15 = .ok (.aload_n 0, 1) := by decide +kernel
theorem dX12_purse_16 : decode cX12_purse 16 = .ok (.iload_n 1, 1) := by decide +kernel
theorem dX12_purse_17 : decode cX12_purse 17 = .ok (.invokevirtual 300, 3) := by decide +kernel
theorem dX12_purse_20 : decode cX12_purse 20 = .ok (.ifCond .ne 5, 3) := by decide +kernel
theorem dX12_purse_23 : decode cX12_purse 23 = .ok (.iconst (-1), 1) := by decide +kernel
theorem dX12_purse_24 : decode cX12_purse 24 = .ok (.ireturn, 1) := by decide +kernel
theorem dX12_purse_25 : decode cX12_purse 25 = .ok (.iconst 0, 1) := by decide +kernel
theorem dX12_purse_26 : decode cX12_purse 26 = .ok (.istore 4, 2) := by decide +kernel
theorem dX12_purse_28 : decode cX12_purse 28 = .ok (.iconst 0, 1) := by decide +kernel
theorem dX12_purse_29 : decode cX12_purse 29 = .ok (.istore 5, 2) := by decide +kernel
theorem dX12_purse_31 : decode cX12_purse 31 = .ok (.iload 5, 2) := by decide +kernel
theorem dX12_purse_33 : decode cX12_purse 33 = .ok (.iconst 1, 1) := by decide +kernel
theorem dX12_purse_34 : decode cX12_purse 34 = .ok (.aload_n 0, 1) := by decide +kernel
theorem dX12_purse_35 : decode cX12_purse 35 = .ok (.iconst 5, 1) := by decide +kernel
theorem dX12_purse_36 : decode cX12_purse 36 = .ok (.invokevirtual 244, 3) := by decide +kernel
theorem dX12_purse_39 : decode cX12_purse 39 = .ok (.ishl, 1) := by decide +kernel
theorem dX12_purse_40 : decode cX12_purse 40 = .ok (.if_icmp .ge 49, 3) := by decide +kernel
theorem dX12_purse_43 : decode cX12_purse 43 = .ok (.aload_n 0, 1) := by decide +kernel
theorem dX12_purse_44 : decode cX12_purse 44 = .ok (.iload 5, 2) := by decide +kernel
theorem dX12_purse_46 : decode cX12_purse 46 = .ok (.invokevirtual 380, 3) := by decide +kernel
theorem dX12_purse_49 : decode cX12_purse 49 = .ok (.iload_n 2, 1) := by decide +kernel
theorem dX12_purse_50 : decode cX12_purse 50 = .ok (.if_icmp .gt 29, 3) := by decide +kernel
theorem dX12_purse_53 : decode cX12_purse 53 = .ok (.aload_n 0, 1) := by decide +kernel
theorem dX12_purse_54 : decode cX12_purse 54 = .ok (.iload 5, 2) := by decide +kernel
theorem dX12_purse_56 : decode cX12_purse 56 = .ok (.invokevirtual 383, 3) := by decide +kernel
theorem dX12_purse_59 : decode cX12_purse 59 = .ok (.invokestatic 412, 3) := by decide +kernel
theorem dX12_purse_62 : decode cX12_purse 62 = .ok (.aload_n 0, 1) := by decide +kernel
theorem dX12_purse_63 : decode cX12_purse 63 = .ok (.iload 4, 2) := by decide +kernel
theorem dX12_purse_65 : decode cX12_purse 65 = .ok (.invokevirtual 383, 3) := by decide +kernel
theorem dX12_purse_68 : decode cX12_purse 68 = .ok (.invokestatic 412, 3) := by decide +kernel
theorem dX12_purse_71 : decode cX12_purse 71 = .ok (.if_icmp .le 8, 3) := by decide +kernel
theorem dX12_purse_74 : decode cX12_purse 74 = .ok (.iload 5, 2) := by decide +kernel
theorem dX12_purse_76 : decode cX12_purse 76 = .ok (.goto 5, 3) := by decide +kernel
theorem dX12_purse_79 : decode cX12_purse 79 = .ok (.iload 4, 2) := by decide +kernel
theorem dX12_purse_81 : decode cX12_purse 81 = .ok (.istore 4, 2) := by decide +kernel
theorem dX12_purse_83 : decode cX12_purse 83 = .ok (.iinc 5 1, 3) := by decide +kernel
theorem dX12_purse_86 : decode cX12_purse 86 = .ok (.goto (-55), 3) := by decide +kernel
theorem dX12_purse_89 : decode cX12_purse 89 = .ok (.iload_n 3, 1) := by decide +kernel
theorem dX12_purse_90 : decode cX12_purse 90 = .ok (.ifCond .eq 8, 3) := by decide +kernel
theorem dX12_purse_93 : decode cX12_purse 93 = .ok (.iload 4, 2) := by decide +kernel
theorem dX12_purse_95 : decode cX12_purse 95 = .ok (.goto 12, 3) := by decide +kernel
theorem dX12_purse_98 : decode cX12_purse 98 = .ok (.aload_n 0, 1) := by decide +kernel
theorem dX12_purse_99 : decode cX12_purse 99 = .ok (.iload 4, 2) := by decide +kernel
theorem dX12_purse_101 : decode cX12_purse 101 = .ok (.invokevirtual 383, 3) := by decide +kernel
theorem dX12_purse_104 : decode cX12_purse 104 = .ok (.invokestatic 412, 3) := by decide +kernel
theorem dX12_purse_107 : decode cX12_purse 107 = .ok (.ireturn, 1) := by decide +kernel
theorem dX12_times_0 : decode cX12_times 0 = .ok (.lconst 1, 1) := by decide +kernel
theorem dX12_times_1 : decode cX12_times 1 = .ok (.lstore_n 3, 1) := by decide +kernel
theorem dX12_times_2 : decode cX12_times 2 = .ok (.iconst 0, 1) := by decide +kernel
theorem dX12_times_3 : decode cX12_times 3 = .ok (.istore 5, 2) := by decide +kernel
theorem dX12_times_5 : decode cX12_times 5 = .ok (.iload 5, 2) := by decide +kernel
theorem dX12_times_7 : decode cX12_times 7 = .ok (.iload_n 2, 1) := by decide +kernel
theorem dX12_times_8 : decode cX12_times 8 = .ok (.if_icmp .ge 13, 3) := by decide +kernel
theorem dX12_times_11 : decode cX12_times 11 = .ok (.lload_n 3, 1) := by decide +kernel
theorem dX12_times_12 : decode cX12_times 12 = .ok (.lload_n 0, 1) := by decide +kernel
theorem dX12_times_13 : decode cX12_times 13 = .ok (.lmul, 1) := by decide +kernel
theorem dX12_times_14 : decode cX12_times 14 = .ok (.lstore_n 3, 1) := by decide +kernel
theorem dX12_times_15 : decode cX12_times 15 = .ok (.iinc 5 1, 3) := by decide +kernel
theorem dX12_times_18 : decode cX12_times 18 = .ok (.goto (-13), 3) := by decide +kernel
theorem dX12_times_21 : decode cX12_times 21 = .ok (.lload_n 3, 1) := by decide +kernel
theorem dX12_times_22 : decode cX12_times 22 = .ok (.lreturn, 1) := by decide +kernel
theorem dX12_calm_0 : decode cX12_calm 0 = .ok (.aload_n 0, 1) := by decide +kernel
theorem dX12_calm_1 : decode cX12_calm 1 = .ok (.iconst 0, 1) := by decide +kernel
theorem dX12_calm_2 : decode cX12_calm 2 = .ok (.putfield 72, 3) := by decide +kernel
theorem dX12_calm_5 : decode cX12_calm 5 = .ok (.iload_n 2, 1) := by decide +kernel
theorem dX12_calm_6 : decode cX12_calm 6 = .ok (.iconst 0, 1) := by decide +kernel
theorem dX12_calm_7 : decode cX12_calm 7 = .ok (.bipush 10, 2) := by decide +kernel
theorem dX12_calm_9 : decode cX12_calm 9 = .ok (.invokestatic 84, 3) := by decide +kernel
theorem dX12_calm_12 : decode cX12_calm 12 = .ok (.ifCond .eq 11, 3) := by decide +kernel
theorem dX12_calm_15 : decode cX12_calm 15 = .ok (.aload_n 0, 1) := by decide +kernel
theorem dX12_calm_16 : decode cX12_calm 16 = .ok (.iload_n 1, 1) := by decide +kernel
theorem dX12_calm_17 : decode cX12_calm 17 = .ok (.invokevirtual 300, 3) := by decide +kernel
theorem dX12_calm_20 : decode cX12_calm 20 = .ok (.ifCond .ne 7, 3) := by decide +kernel
theorem dX12_calm_23 : decode cX12_calm 23 = .ok (.ldc2_w 535, 3) := by decide +kernel
theorem dX12_calm_26 : decode cX12_calm 26 = .ok (.lreturn, 1) := by decide +kernel
theorem dX12_calm_27 : decode cX12_calm 27 = .ok (.aload_n 0, 1) := by decide +kernel
theorem dX12_calm_28 : decode cX12_calm 28 = .ok (.invokevirtual 322, 3) := by decide +kernel
theorem dX12_calm_31 : decode cX12_calm 31 = .ok (.invokestatic 412, 3) := by decide +kernel
theorem dX12_calm_34 : decode cX12_calm 34 = .ok (.istore 4, 2) := by decide +kernel
theorem dX12_calm_36 : decode cX12_calm 36 = .ok (.ldc2_w 537, 3) := by decide +kernel
theorem dX12_calm_39 : decode cX12_calm 39 = .ok (.iload_n 2, 1) := by decide +kernel
theorem dX12_calm_40 : decode cX12_calm 40 = .ok (.i2l, 1) := by decide +kernel
theorem dX12_calm_41 : decode cX12_calm 41 = .ok (.lsub, 1) := by decide +kernel
theorem dX12_calm_42 : decode cX12_calm 42 = .ok (.iload 4, 2) := by decide +kernel
theorem dX12_calm_44 : decode cX12_calm 44 = .ok (.invokestatic 539, 3) := by decide +kernel
theorem dX12_calm_47 : decode cX12_calm 47 = .ok (.ldc2_w 537, 3) := by decide +kernel
theorem dX12_calm_50 : decode cX12_calm 50 = .ok (.iload 4, 2) := by decide +kernel
theorem dX12_calm_52 : decode cX12_calm 52 = .ok (.invokestatic 539, 3) := by decide +kernel
theorem dX12_calm_55 : decode cX12_calm 55 = .ok (.iload_n 3, 1) := by decide +kernel
theorem dX12_calm_56 : decode cX12_calm 56 = .ok (.invokestatic 543, 3) := by decide +kernel
theorem dX12_calm_59 : decode cX12_calm 59 = .ok (.lreturn, 1) := by decide +kernel
theorem dX12_plays_0 : decode cX12_plays 0 = .ok (.aload_n 0, 1) := by decide +kernel
theorem dX12_plays_1 : decode cX12_plays 1 = .ok (.iconst 0, 1) := by decide +kernel
theorem dX12_plays_2 : decode cX12_plays 2 = .ok (.putfield 72, 3) := by decide +kernel
theorem dX12_plays_5 : decode cX12_plays 5 = .ok (.iload_n 2, 1) := by decide +kernel
theorem dX12_plays_6 : decode cX12_plays 6 = .ok (.iconst 0, 1) := by decide +kernel
theorem dX12_plays_7 : decode cX12_plays 7 = .ok (.bipush 99, 2) := by decide +kernel
theorem dX12_plays_9 : decode cX12_plays 9 = .ok (.invokestatic 84, 3) := by decide +kernel
theorem dX12_plays_12 : decode cX12_plays 12 = .ok (.ifCond .eq 11, 3) := by decide +kernel
theorem dX12_plays_15 : decode cX12_plays 15 = .ok (.aload_n 0, 1) := by decide +kernel
theorem dX12_plays_16 : decode cX12_plays 16 = .ok (.iload_n 1, 1) := by decide +kernel
theorem dX12_plays_17 : decode cX12_plays 17 = .ok (.invokevirtual 300, 3) := by decide +kernel
theorem dX12_plays_20 : decode cX12_plays 20 = .ok (.ifCond .ne 5, 3) := by decide +kernel
theorem dX12_plays_23 : decode cX12_plays 23 = .ok (.iconst (-1), 1) := by decide +kernel
theorem dX12_plays_24 : decode cX12_plays 24 = .ok (.ireturn, 1) := by decide +kernel
theorem dX12_plays_25 : decode cX12_plays 25 = .ok (.aload_n 0, 1) := by decide +kernel
theorem dX12_plays_26 : decode cX12_plays 26 = .ok (.invokevirtual 322, 3) := by decide +kernel
theorem dX12_plays_29 : decode cX12_plays 29 = .ok (.ifCond .eq 7, 3) := by decide +kernel
theorem dX12_plays_32 : decode cX12_plays 32 = .ok (.iconst 1, 1) := by decide +kernel
theorem dX12_plays_33 : decode cX12_plays 33 = .ok (.goto 4, 3) := by decide +kernel
theorem dX12_plays_36 : decode cX12_plays 36 = .ok (.iconst 0, 1) := by decide +kernel
theorem dX12_plays_37 : decode cX12_plays 37 = .ok (.istore_n 3, 1) := by decide +kernel
theorem dX12_plays_38 : decode cX12_plays 38 = .ok (.iconst 0, 1) := by decide +kernel
theorem dX12_plays_39 : decode cX12_plays 39 = .ok (.istore 4, 2) := by decide +kernel
theorem dX12_plays_41 : decode cX12_plays 41 = .ok (.iconst 1, 1) := by decide +kernel
theorem dX12_plays_42 : decode cX12_plays 42 = .ok (.istore 5, 2) := by decide +kernel
theorem dX12_plays_44 : decode cX12_plays 44 = .ok (.iload 5, 2) := by decide +kernel
theorem dX12_plays_46 : decode cX12_plays 46 = .ok (.iload_n 2, 1) := by decide +kernel
theorem dX12_plays_47 : decode cX12_plays 47 = .ok (.if_icmp .gt 32, 3) := by decide +kernel
theorem dX12_plays_50 : decode cX12_plays 50 = .ok (.iload 4, 2) := by decide +kernel
theorem dX12_plays_52 : decode cX12_plays 52 = .ok (.iload_n 3, 1) := by decide +kernel
theorem dX12_plays_53 : decode cX12_plays 53 = .ok (.ifCond .ne 12, 3) := by decide +kernel
theorem dX12_plays_56 : decode cX12_plays 56 = .ok (.aload_n 0, 1) := by decide +kernel
theorem dX12_plays_57 : decode cX12_plays 57 = .ok (.iload 5, 2) := by decide +kernel
theorem dX12_plays_59 : decode cX12_plays 59 = .ok (.invokevirtual 325, 3) := by decide +kernel
theorem dX12_plays_62 : decode cX12_plays 62 = .ok (.ifCond .eq 7, 3) := by decide +kernel
theorem dX12_plays_65 : decode cX12_plays 65 = .ok (.iconst 0, 1) := by decide +kernel
theorem dX12_plays_66 : decode cX12_plays 66 = .ok (.goto 4, 3) := by decide +kernel
theorem dX12_plays_69 : decode cX12_plays 69 = .ok (.iconst 1, 1) := by decide +kernel
theorem dX12_plays_70 : decode cX12_plays 70 = .ok (.iadd, 1) := by decide +kernel
theorem dX12_plays_71 : decode cX12_plays 71 = .ok (.istore 4, 2) := by decide +kernel
theorem dX12_plays_73 : decode cX12_plays 73 = .ok (.iinc 5 1, 3) := by decide +kernel
theorem dX12_plays_76 : decode cX12_plays 76 = .ok (.goto (-32), 3) := by decide +kernel
theorem dX12_plays_79 : decode cX12_plays 79 = .ok (.iload 4, 2) := by decide +kernel
theorem dX12_plays_81 : decode cX12_plays 81 = .ok (.ireturn, 1) := by decide +kernel
theorem dX12_choose_0 : decode cX12_choose 0 = .ok (.iload_n 1, 1) := by decide +kernel
theorem dX12_choose_1 : decode cX12_choose 1 = .ok (.iconst 0, 1) := by decide +kernel
theorem dX12_choose_2 : decode cX12_choose 2 = .ok (.iload_n 0, 1) := by decide +kernel
theorem dX12_choose_3 : decode cX12_choose 3 = .ok (.invokestatic 84, 3) := by decide +kernel
theorem dX12_choose_6 : decode cX12_choose 6 = .ok (.ifCond .eq 7, 3) := by decide +kernel
theorem dX12_choose_9 : decode cX12_choose 9 = .ok (.lconst 1, 1) := by decide +kernel
theorem dX12_choose_10 : decode cX12_choose 10 = .ok (.goto 4, 3) := by decide +kernel
theorem dX12_choose_13 : decode cX12_choose 13 = .ok (.lconst 0, 1) := by decide +kernel
theorem dX12_choose_14 : decode cX12_choose 14 = .ok (.lstore_n 2, 1) := by decide +kernel
theorem dX12_choose_15 : decode cX12_choose 15 = .ok (.iconst 0, 1) := by decide +kernel
theorem dX12_choose_16 : decode cX12_choose 16 = .ok (.istore 4, 2) := by decide +kernel
theorem dX12_choose_18 : decode cX12_choose 18 = .ok (.iload 4, 2) := by decide +kernel
theorem dX12_choose_20 : decode cX12_choose 20 = .ok (.iload_n 1, 1) := by decide +kernel
theorem dX12_choose_21 : decode cX12_choose 21 = .ok (.if_icmp .ge 29, 3) := by decide +kernel
theorem dX12_choose_24 : decode cX12_choose 24 = .ok (.lload_n 2, 1) := by decide +kernel
theorem dX12_choose_25 : decode cX12_choose 25 = .ok (.lconst 0, 1) := by decide +kernel
theorem dX12_choose_26 : decode cX12_choose 26 = .ok (.lcmp, 1) := by decide +kernel
theorem dX12_choose_27 : decode cX12_choose 27 = .ok (.ifCond .le 23, 3) := by decide +kernel
theorem dX12_choose_30 : decode cX12_choose 30 = .ok (.lload_n 2, 1) := by decide +kernel
theorem dX12_choose_31 : decode cX12_choose 31 = .ok (.iload_n 0, 1) := by decide +kernel
theorem dX12_choose_32 : decode cX12_choose 32 = .ok (.iload 4, 2) := by decide +kernel
theorem dX12_choose_34 : decode cX12_choose 34 = .ok (.isub, 1) := by decide +kernel
theorem dX12_choose_35 : decode cX12_choose 35 = .ok (.i2l, 1) := by decide +kernel
theorem dX12_choose_36 : decode cX12_choose 36 = .ok (.lmul, 1) := by decide +kernel
theorem dX12_choose_37 : decode cX12_choose 37 = .ok (.iload 4, 2) := by decide +kernel
theorem dX12_choose_39 : decode cX12_choose 39 = .ok (.iconst 1, 1) := by decide +kernel
theorem dX12_choose_40 : decode cX12_choose 40 = .ok (.iadd, 1) := by decide +kernel
theorem dX12_choose_41 : decode cX12_choose 41 = .ok (.i2l, 1) := by decide +kernel
theorem dX12_choose_42 : decode cX12_choose 42 = .ok (.ldiv, 1) := by decide +kernel
theorem dX12_choose_43 : decode cX12_choose 43 = .ok (.lstore_n 2, 1) := by decide +kernel
theorem dX12_choose_44 : decode cX12_choose 44 = .ok (.iinc 4 1, 3) := by decide +kernel
theorem dX12_choose_47 : decode cX12_choose 47 = .ok (.goto (-29), 3) := by decide +kernel
theorem dX12_choose_50 : decode cX12_choose 50 = .ok (.lload_n 2, 1) := by decide +kernel
theorem dX12_choose_51 : decode cX12_choose 51 = .ok (.lreturn, 1) := by decide +kernel
theorem dX12_guess_0 : decode cX12_guess 0 = .ok (.aload_n 0, 1) := by decide +kernel
theorem dX12_guess_1 : decode cX12_guess 1 = .ok (.iconst 0, 1) := by decide +kernel
theorem dX12_guess_2 : decode cX12_guess 2 = .ok (.putfield 72, 3) := by decide +kernel
theorem dX12_guess_5 : decode cX12_guess 5 = .ok (.iload_n 2, 1) := by decide +kernel
theorem dX12_guess_6 : decode cX12_guess 6 = .ok (.iconst 0, 1) := by decide +kernel
theorem dX12_guess_7 : decode cX12_guess 7 = .ok (.bipush 8, 2) := by decide +kernel
theorem dX12_guess_9 : decode cX12_guess 9 = .ok (.invokestatic 84, 3) := by decide +kernel
theorem dX12_guess_12 : decode cX12_guess 12 = .ok (.ifCond .eq 19, 3) := by decide +kernel
theorem dX12_guess_15 : decode cX12_guess 15 = .ok (.aload_n 0, 1) := by decide +kernel
theorem dX12_guess_16 : decode cX12_guess 16 = .ok (.iload_n 1, 1) := by decide +kernel
theorem dX12_guess_17 : decode cX12_guess 17 = .ok (.invokevirtual 300, 3) := by decide +kernel
theorem dX12_guess_20 : decode cX12_guess 20 = .ok (.ifCond .eq 11, 3) := by decide +kernel
theorem dX12_guess_23 : decode cX12_guess 23 = .ok (.aload_n 0, 1) := by decide +kernel
theorem dX12_guess_24 : decode cX12_guess 24 = .ok (.getfield 251, 3) := by decide +kernel
theorem dX12_guess_27 : decode cX12_guess 27 = .ok (.iload_n 2, 1) := by decide +kernel
theorem dX12_guess_28 : decode cX12_guess 28 = .ok (.if_icmp .ge 7, 3) := by decide +kernel
theorem dX12_guess_31 : decode cX12_guess 31 = .ok (.ldc2_w 535, 3) := by decide +kernel
theorem dX12_guess_34 : decode cX12_guess 34 = .ok (.lreturn, 1) := by decide +kernel
theorem dX12_guess_35 : decode cX12_guess 35 = .ok (.aload_n 0, 1) := by decide +kernel
theorem dX12_guess_36 : decode cX12_guess 36 = .ok (.invokevirtual 322, 3) := by decide +kernel
theorem dX12_guess_39 : decode cX12_guess 39 = .ok (.invokestatic 412, 3) := by decide +kernel
theorem dX12_guess_42 : decode cX12_guess 42 = .ok (.istore 4, 2) := by decide +kernel
theorem dX12_guess_44 : decode cX12_guess 44 = .ok (.aload_n 0, 1) := by decide +kernel
theorem dX12_guess_45 : decode cX12_guess 45 = .ok (.getfield 251, 3) := by decide +kernel
theorem dX12_guess_48 : decode cX12_guess 48 = .ok (.iload 4, 2) := by decide +kernel
theorem dX12_guess_50 : decode cX12_guess 50 = .ok (.isub, 1) := by decide +kernel
theorem dX12_guess_51 : decode cX12_guess 51 = .ok (.iload_n 2, 1) := by decide +kernel
theorem dX12_guess_52 : decode cX12_guess 52 = .ok (.iload 4, 2) := by decide +kernel
theorem dX12_guess_54 : decode cX12_guess 54 = .ok (.isub, 1) := by decide +kernel
theorem dX12_guess_55 : decode cX12_guess 55 = .ok (.invokestatic 547, 3) := by decide +kernel
theorem dX12_guess_58 : decode cX12_guess 58 = .ok (.aload_n 0, 1) := by decide +kernel
theorem dX12_guess_59 : decode cX12_guess 59 = .ok (.getfield 251, 3) := by decide +kernel
theorem dX12_guess_62 : decode cX12_guess 62 = .ok (.iload_n 2, 1) := by decide +kernel
theorem dX12_guess_63 : decode cX12_guess 63 = .ok (.invokestatic 547, 3) := by decide +kernel
theorem dX12_guess_66 : decode cX12_guess 66 = .ok (.iload_n 3, 1) := by decide +kernel
theorem dX12_guess_67 : decode cX12_guess 67 = .ok (.invokestatic 543, 3) := by decide +kernel
theorem dX12_guess_70 : decode cX12_guess 70 = .ok (.lreturn, 1) := by decide +kernel
theorem dX12_after_0 : decode cX12_after 0 = .ok (.aload_n 0, 1) := by decide +kernel
theorem dX12_after_1 : decode cX12_after 1 = .ok (.iconst 0, 1) := by decide +kernel
theorem dX12_after_2 : decode cX12_after 2 = .ok (.putfield 72, 3) := by decide +kernel
theorem dX12_after_5 : decode cX12_after 5 = .ok (.aload_n 0, 1) := by decide +kernel
theorem dX12_after_6 : decode cX12_after 6 = .ok (.iload_n 1, 1) := by decide +kernel
theorem dX12_after_7 : decode cX12_after 7 = .ok (.iload_n 2, 1) := by decide +kernel
theorem dX12_after_8 : decode cX12_after 8 = .ok (.invokevirtual 344, 3) := by decide +kernel
theorem dX12_after_11 : decode cX12_after 11 = .ok (.ifCond .eq 12, 3) := by decide +kernel
theorem dX12_after_14 : decode cX12_after 14 = .ok (.iload_n 3, 1) := by decide +kernel
theorem dX12_after_15 : decode cX12_after 15 = .ok (.iconst 0, 1) := by decide +kernel
theorem dX12_after_16 : decode cX12_after 16 = .ok (.iconst 5, 1) := by decide +kernel
theorem dX12_after_17 : decode cX12_after 17 = .ok (.invokestatic 84, 3) := by decide +kernel
theorem dX12_after_20 : decode cX12_after 20 = .ok (.ifCond .ne 6, 3) := by decide +kernel
theorem dX12_after_23 : decode cX12_after 23 = .ok (.bipush (-2), 2) := by decide +kernel
theorem dX12_after_25 : decode cX12_after 25 = .ok (.ireturn, 1) := by decide +kernel
theorem dX12_after_26 : decode cX12_after 26 = .ok (.iconst (-1), 1) := by decide +kernel
theorem dX12_after_27 : decode cX12_after 27 = .ok (.istore 4, 2) := by decide +kernel
theorem dX12_after_29 : decode cX12_after 29 = .ok (.iconst 0, 1) := by decide +kernel
theorem dX12_after_30 : decode cX12_after 30 = .ok (.istore 5, 2) := by decide +kernel
theorem dX12_after_32 : decode cX12_after 32 = .ok (.iconst 0, 1) := by decide +kernel
theorem dX12_after_33 : decode cX12_after 33 = .ok (.istore 6, 2) := by decide +kernel
theorem dX12_after_35 : decode cX12_after 35 = .ok (.iconst 0, 1) := by decide +kernel
theorem dX12_after_36 : decode cX12_after 36 = .ok (.istore 7, 2) := by decide +kernel
theorem dX12_after_38 : decode cX12_after 38 = .ok (.iconst 0, 1) := by decide +kernel
theorem dX12_after_39 : decode cX12_after 39 = .ok (.istore 8, 2) := by decide +kernel
theorem dX12_after_41 : decode cX12_after 41 = .ok (.iconst 0, 1) := by decide +kernel
theorem dX12_after_42 : decode cX12_after 42 = .ok (.istore 9, 2) := by decide +kernel
theorem dX12_after_44 : decode cX12_after 44 = .ok (.iconst 0, 1) := by decide +kernel
theorem dX12_after_45 : decode cX12_after 45 = .ok (.istore 10, 2) := by decide +kernel
theorem dX12_after_47 : decode cX12_after 47 = .ok (.iconst 1, 1) := by decide +kernel
theorem dX12_after_48 : decode cX12_after 48 = .ok (.istore 11, 2) := by decide +kernel
theorem dX12_after_50 : decode cX12_after 50 = .ok (.iconst 0, 1) := by decide +kernel
theorem dX12_after_51 : decode cX12_after 51 = .ok (.istore 12, 2) := by decide +kernel
theorem dX12_after_53 : decode cX12_after 53 = .ok (.iload 11, 2) := by decide +kernel
theorem dX12_after_55 : decode cX12_after 55 = .ok (.ifCond .eq 252, 3) := by decide +kernel
theorem dX12_after_58 : decode cX12_after 58 = .ok (.iload 12, 2) := by decide +kernel
theorem dX12_after_60 : decode cX12_after 60 = .ok (.aload_n 0, 1) := by decide +kernel
theorem dX12_after_61 : decode cX12_after 61 = .ok (.invokevirtual 316, 3) := by decide +kernel
theorem dX12_after_64 : decode cX12_after 64 = .ok (.if_icmp .ge 243, 3) := by decide +kernel
theorem dX12_after_67 : decode cX12_after 67 = .ok (.aload_n 0, 1) := by decide +kernel
theorem dX12_after_68 : decode cX12_after 68 = .ok (.iload 12, 2) := by decide +kernel
theorem dX12_after_70 : decode cX12_after 70 = .ok (.iconst 0, 1) := by decide +kernel
theorem dX12_after_71 : decode cX12_after 71 = .ok (.invokevirtual 319, 3) := by decide +kernel
theorem dX12_after_74 : decode cX12_after 74 = .ok (.istore 13, 2) := by decide +kernel
theorem dX12_after_76 : decode cX12_after 76 = .ok (.aload_n 0, 1) := by decide +kernel
theorem dX12_after_77 : decode cX12_after 77 = .ok (.iload 12, 2) := by decide +kernel
theorem dX12_after_79 : decode cX12_after 79 = .ok (.iconst 1, 1) := by decide +kernel
theorem dX12_after_80 : decode cX12_after 80 = .ok (.invokevirtual 319, 3) := by decide +kernel
theorem dX12_after_83 : decode cX12_after 83 = .ok (.istore 14, 2) := by decide +kernel
theorem dX12_after_85 : decode cX12_after 85 = .ok (.iload 13, 2) := by decide +kernel
theorem dX12_after_87 : decode cX12_after 87 = .ok (.iconst 3, 1) := by decide +kernel
theorem dX12_after_88 : decode cX12_after 88 = .ok (.if_icmp .ne 46, 3) := by decide +kernel
theorem dX12_after_91 : decode cX12_after 91 = .ok (.aload_n 0, 1) := by decide +kernel
theorem dX12_after_92 : decode cX12_after 92 = .ok (.iload 14, 2) := by decide +kernel
theorem dX12_after_94 : decode cX12_after 94 = .ok (.invokevirtual 303, 3) := by decide +kernel
theorem dX12_after_97 : decode cX12_after 97 = .ok (.ifCond .eq 37, 3) := by decide +kernel
theorem dX12_after_100 : decode cX12_after 100 = .ok (.aload_n 0, 1) := by decide +kernel
theorem dX12_after_101 : decode cX12_after 101 = .ok (.getfield 41, 3) := by decide +kernel
theorem dX12_after_104 : decode cX12_after 104 = .ok (.iload 14, 2) := by decide +kernel
theorem dX12_after_106 : decode cX12_after 106 = .ok (.iaload, 1) := by decide +kernel
theorem dX12_after_107 : decode cX12_after 107 = .ok (.aload_n 0, 1) := by decide +kernel
theorem dX12_after_108 : decode cX12_after 108 = .ok (.getfield 44, 3) := by decide +kernel
theorem dX12_after_111 : decode cX12_after 111 = .ok (.iload 14, 2) := by decide +kernel
theorem dX12_after_113 : decode cX12_after 113 = .ok (.iaload, 1) := by decide +kernel
theorem dX12_after_114 : decode cX12_after 114 = .ok (.aload_n 0, 1) := by decide +kernel
theorem dX12_after_115 : decode cX12_after 115 = .ok (.iload 12, 2) := by decide +kernel
theorem dX12_after_117 : decode cX12_after 117 = .ok (.iconst 2, 1) := by decide +kernel
theorem dX12_after_118 : decode cX12_after 118 = .ok (.invokevirtual 319, 3) := by decide +kernel
theorem dX12_after_121 : decode cX12_after 121 = .ok (.aload_n 0, 1) := by decide +kernel
theorem dX12_after_122 : decode cX12_after 122 = .ok (.iload 12, 2) := by decide +kernel
theorem dX12_after_124 : decode cX12_after 124 = .ok (.iconst 3, 1) := by decide +kernel
theorem dX12_after_125 : decode cX12_after 125 = .ok (.invokevirtual 319, 3) := by decide +kernel
theorem dX12_after_128 : decode cX12_after 128 = .ok (.invokestatic 290, 3) := by decide +kernel
theorem dX12_after_131 : decode cX12_after 131 = .ok (.goto 4, 3) := by decide +kernel
theorem dX12_after_134 : decode cX12_after 134 = .ok (.iconst 0, 1) := by decide +kernel
theorem dX12_after_135 : decode cX12_after 135 = .ok (.istore 15, 2) := by decide +kernel
theorem dX12_after_137 : decode cX12_after 137 = .ok (.aload_n 0, 1) := by decide +kernel
theorem dX12_after_138 : decode cX12_after 138 = .ok (.iload 12, 2) := by decide +kernel
theorem dX12_after_140 : decode cX12_after 140 = .ok (.invokevirtual 341, 3) := by decide +kernel
theorem dX12_after_143 : decode cX12_after 143 = .ok (.istore 11, 2) := by decide +kernel
theorem dX12_after_145 : decode cX12_after 145 = .ok (.iload 11, 2) := by decide +kernel
theorem dX12_after_147 : decode cX12_after 147 = .ok (.ifCond .eq 13, 3) := by decide +kernel
theorem dX12_after_150 : decode cX12_after 150 = .ok (.iload 10, 2) := by decide +kernel
theorem dX12_after_152 : decode cX12_after 152 = .ok (.iload 15, 2) := by decide +kernel
theorem dX12_after_154 : decode cX12_after 154 = .ok (.invokestatic 153, 3) := by decide +kernel
theorem dX12_after_157 : decode cX12_after 157 = .ok (.goto 5, 3) := by decide +kernel
theorem dX12_after_160 : decode cX12_after 160 = .ok (.iload 10, 2) := by decide +kernel
theorem dX12_after_162 : decode cX12_after 162 = .ok (.istore 10, 2) := by decide +kernel
theorem dX12_after_164 : decode cX12_after 164 = .ok (.iload 7, 2) := by decide +kernel
theorem dX12_after_166 : decode cX12_after 166 = .ok (.iload 11, 2) := by decide +kernel
theorem dX12_after_168 : decode cX12_after 168 = .ok (.ifCond .eq 19, 3) := by decide +kernel
theorem dX12_after_171 : decode cX12_after 171 = .ok (.iload 13, 2) := by decide +kernel
theorem dX12_after_173 : decode cX12_after 173 = .ok (.iconst 4, 1) := by decide +kernel
theorem dX12_after_174 : decode cX12_after 174 = .ok (.if_icmp .ne 13, 3) := by decide +kernel
theorem dX12_after_177 : decode cX12_after 177 = .ok (.aload_n 0, 1) := by decide +kernel
theorem dX12_after_178 : decode cX12_after 178 = .ok (.iload 12, 2) := by decide +kernel
theorem dX12_after_180 : decode cX12_after 180 = .ok (.iconst 3, 1) := by decide +kernel
theorem dX12_after_181 : decode cX12_after 181 = .ok (.invokevirtual 319, 3) := by decide +kernel
theorem dX12_after_184 : decode cX12_after 184 = .ok (.goto 4, 3) := by decide +kernel
theorem dX12_after_187 : decode cX12_after 187 = .ok (.iconst 0, 1) := by decide +kernel
theorem dX12_after_188 : decode cX12_after 188 = .ok (.iadd, 1) := by decide +kernel
theorem dX12_after_189 : decode cX12_after 189 = .ok (.istore 7, 2) := by decide +kernel
theorem dX12_after_191 : decode cX12_after 191 = .ok (.iload 8, 2) := by decide +kernel
theorem dX12_after_193 : decode cX12_after 193 = .ok (.iload 11, 2) := by decide +kernel
theorem dX12_after_195 : decode cX12_after 195 = .ok (.ifCond .eq 19, 3) := by decide +kernel
theorem dX12_after_198 : decode cX12_after 198 = .ok (.iload 13, 2) := by decide +kernel
theorem dX12_after_200 : decode cX12_after 200 = .ok (.iconst 5, 1) := by decide +kernel
theorem dX12_after_201 : decode cX12_after 201 = .ok (.if_icmp .ne 13, 3) := by decide +kernel
theorem dX12_after_204 : decode cX12_after 204 = .ok (.aload_n 0, 1) := by decide +kernel
theorem dX12_after_205 : decode cX12_after 205 = .ok (.iload 12, 2) := by decide +kernel
theorem dX12_after_207 : decode cX12_after 207 = .ok (.iconst 3, 1) := by decide +kernel
theorem dX12_after_208 : decode cX12_after 208 = .ok (.invokevirtual 319, 3) := by decide +kernel
theorem dX12_after_211 : decode cX12_after 211 = .ok (.goto 4, 3) := by decide +kernel
theorem dX12_after_214 : decode cX12_after 214 = .ok (.iconst 0, 1) := by decide +kernel
theorem dX12_after_215 : decode cX12_after 215 = .ok (.iadd, 1) := by decide +kernel
theorem dX12_after_216 : decode cX12_after 216 = .ok (.istore 8, 2) := by decide +kernel
theorem dX12_after_218 : decode cX12_after 218 = .ok (.iload 9, 2) := by decide +kernel
theorem dX12_after_220 : decode cX12_after 220 = .ok (.iload 11, 2) := by decide +kernel
theorem dX12_after_222 : decode cX12_after 222 = .ok (.ifCond .eq 13, 3) := by decide +kernel
theorem dX12_after_225 : decode cX12_after 225 = .ok (.iload 13, 2) := by decide +kernel
theorem dX12_after_227 : decode cX12_after 227 = .ok (.iconst 2, 1) := by decide +kernel
theorem dX12_after_228 : decode cX12_after 228 = .ok (.if_icmp .ne 7, 3) := by decide +kernel
theorem dX12_after_231 : decode cX12_after 231 = .ok (.iconst 1, 1) := by decide +kernel
theorem dX12_after_232 : decode cX12_after 232 = .ok (.goto 4, 3) := by decide +kernel
theorem dX12_after_235 : decode cX12_after 235 = .ok (.iconst 0, 1) := by decide +kernel
theorem dX12_after_236 : decode cX12_after 236 = .ok (.iadd, 1) := by decide +kernel
theorem dX12_after_237 : decode cX12_after 237 = .ok (.istore 9, 2) := by decide +kernel
theorem dX12_after_239 : decode cX12_after 239 = .ok (.iload 11, 2) := by decide +kernel
theorem dX12_after_241 : decode cX12_after 241 = .ok (.ifCond .eq 60, 3) := by decide +kernel
theorem dX12_after_244 : decode cX12_after 244 = .ok (.iload 13, 2) := by decide +kernel
theorem dX12_after_246 : decode cX12_after 246 = .ok (.ifCond .ne 55, 3) := by decide +kernel
theorem dX12_after_249 : decode cX12_after 249 = .ok (.iload 4, 2) := by decide +kernel
theorem dX12_after_251 : decode cX12_after 251 = .ok (.iconst (-1), 1) := by decide +kernel
theorem dX12_after_252 : decode cX12_after 252 = .ok (.if_icmp .ne 18, 3) := by decide +kernel
theorem dX12_after_255 : decode cX12_after 255 = .ok (.aload_n 0, 1) := by decide +kernel
theorem dX12_after_256 : decode cX12_after 256 = .ok (.getfield 272, 3) := by decide +kernel
theorem dX12_after_259 : decode cX12_after 259 = .ok (.iconst 1, 1) := by decide +kernel
theorem dX12_after_260 : decode cX12_after 260 = .ok (.if_icmp .ne 10, 3) := by decide +kernel
theorem dX12_after_263 : decode cX12_after 263 = .ok (.aload_n 0, 1) := by decide +kernel
theorem dX12_after_264 : decode cX12_after 264 = .ok (.getfield 266, 3) := by decide +kernel
theorem dX12_after_267 : decode cX12_after 267 = .ok (.goto 5, 3) := by decide +kernel
theorem dX12_after_270 : decode cX12_after 270 = .ok (.iload 4, 2) := by decide +kernel
theorem dX12_after_272 : decode cX12_after 272 = .ok (.istore 4, 2) := by decide +kernel
theorem dX12_after_274 : decode cX12_after 274 = .ok (.aload_n 0, 1) := by decide +kernel
theorem dX12_after_275 : decode cX12_after 275 = .ok (.getfield 272, 3) := by decide +kernel
theorem dX12_after_278 : decode cX12_after 278 = .ok (.iconst 1, 1) := by decide +kernel
theorem dX12_after_279 : decode cX12_after 279 = .ok (.if_icmp .ne 7, 3) := by decide +kernel
theorem dX12_after_282 : decode cX12_after 282 = .ok (.iconst 0, 1) := by decide +kernel
theorem dX12_after_283 : decode cX12_after 283 = .ok (.goto 7, 3) := by decide +kernel
theorem dX12_after_286 : decode cX12_after 286 = .ok (.iload 6, 2) := by decide +kernel
theorem dX12_after_288 : decode cX12_after 288 = .ok (.iconst 1, 1) := by decide +kernel
theorem dX12_after_289 : decode cX12_after 289 = .ok (.iadd, 1) := by decide +kernel
theorem dX12_after_290 : decode cX12_after 290 = .ok (.istore 6, 2) := by decide +kernel
theorem dX12_after_292 : decode cX12_after 292 = .ok (.iload 5, 2) := by decide +kernel
theorem dX12_after_294 : decode cX12_after 294 = .ok (.iload 6, 2) := by decide +kernel
theorem dX12_after_296 : decode cX12_after 296 = .ok (.invokestatic 153, 3) := by decide +kernel
theorem dX12_after_299 : decode cX12_after 299 = .ok (.istore 5, 2) := by decide +kernel
theorem dX12_after_301 : decode cX12_after 301 = .ok (.iinc 12 1, 3) := by decide +kernel
theorem dX12_after_304 : decode cX12_after 304 = .ok (.goto (-251), 3) := by decide +kernel
theorem dX12_after_307 : decode cX12_after 307 = .ok (.iload_n 3, 1) := by decide +kernel
theorem dX12_after_308 : decode cX12_after 308 = .ok (.tableswitch 51 0 4 #[36, 39, 42, 45, 48], 36) := by decide +kernel
theorem dX12_after_344 : decode cX12_after 344 = .ok (.iload 4, 2) := by decide +kernel
theorem dX12_after_346 : decode cX12_after 346 = .ok (.ireturn, 1) := by decide +kernel
theorem dX12_after_347 : decode cX12_after 347 = .ok (.iload 5, 2) := by decide +kernel
theorem dX12_after_349 : decode cX12_after 349 = .ok (.ireturn, 1) := by decide +kernel
theorem dX12_after_350 : decode cX12_after 350 = .ok (.iload 7, 2) := by decide +kernel
theorem dX12_after_352 : decode cX12_after 352 = .ok (.ireturn, 1) := by decide +kernel
theorem dX12_after_353 : decode cX12_after 353 = .ok (.iload 8, 2) := by decide +kernel
theorem dX12_after_355 : decode cX12_after 355 = .ok (.ireturn, 1) := by decide +kernel
theorem dX12_after_356 : decode cX12_after 356 = .ok (.iload 9, 2) := by decide +kernel
theorem dX12_after_358 : decode cX12_after 358 = .ok (.ireturn, 1) := by decide +kernel
theorem dX12_after_359 : decode cX12_after 359 = .ok (.iload 10, 2) := by decide +kernel
theorem dX12_after_361 : decode cX12_after 361 = .ok (.ireturn, 1) := by decide +kernel
theorem dX12_odds_0 : decode cX12_odds 0 = .ok (.aload_n 0, 1) := by decide +kernel
theorem dX12_odds_1 : decode cX12_odds 1 = .ok (.iconst 0, 1) := by decide +kernel
theorem dX12_odds_2 : decode cX12_odds 2 = .ok (.putfield 72, 3) := by decide +kernel
theorem dX12_odds_5 : decode cX12_odds 5 = .ok (.iload_n 2, 1) := by decide +kernel
theorem dX12_odds_6 : decode cX12_odds 6 = .ok (.iconst 0, 1) := by decide +kernel
theorem dX12_odds_7 : decode cX12_odds 7 = .ok (.bipush 63, 2) := by decide +kernel
theorem dX12_odds_9 : decode cX12_odds 9 = .ok (.invokestatic 84, 3) := by decide +kernel
theorem dX12_odds_12 : decode cX12_odds 12 = .ok (.ifCond .eq 18, 3) := by decide +kernel
theorem dX12_odds_15 : decode cX12_odds 15 = .ok (.aload_n 0, 1) := by decide +kernel
theorem dX12_odds_16 : decode cX12_odds 16 = .ok (.iload_n 1, 1) := by decide +kernel
theorem dX12_odds_17 : decode cX12_odds 17 = .ok (.invokevirtual 458, 3) := by decide +kernel
theorem dX12_odds_20 : decode cX12_odds 20 = .ok (.ifCond .eq 10, 3) := by decide +kernel
theorem dX12_odds_23 : decode cX12_odds 23 = .ok (.aload_n 0, 1) := by decide +kernel
theorem dX12_odds_24 : decode cX12_odds 24 = .ok (.getfield 446, 3) := by decide +kernel
theorem dX12_odds_27 : decode cX12_odds 27 = .ok (.ifCond .ne 5, 3) := by decide +kernel
theorem dX12_odds_30 : decode cX12_odds 30 = .ok (.iconst (-1), 1) := by decide +kernel
theorem dX12_odds_31 : decode cX12_odds 31 = .ok (.ireturn, 1) := by decide +kernel
theorem dX12_odds_32 : decode cX12_odds 32 = .ok (.aload_n 0, 1) := by decide +kernel
theorem dX12_odds_33 : decode cX12_odds 33 = .ok (.iload_n 2, 1) := by decide +kernel
theorem dX12_odds_34 : decode cX12_odds 34 = .ok (.invokevirtual 455, 3) := by decide +kernel
theorem dX12_odds_37 : decode cX12_odds 37 = .ok (.aload_n 0, 1) := by decide +kernel
theorem dX12_odds_38 : decode cX12_odds 38 = .ok (.getfield 446, 3) := by decide +kernel
theorem dX12_odds_41 : decode cX12_odds 41 = .ok (.iload_n 3, 1) := by decide +kernel
theorem dX12_odds_42 : decode cX12_odds 42 = .ok (.invokestatic 373, 3) := by decide +kernel
theorem dX12_odds_45 : decode cX12_odds 45 = .ok (.ireturn, 1) := by decide +kernel
theorem dX12_sizeOf_0 : decode cX12_sizeOf 0 = .ok (.iconst (-1), 1) := by decide +kernel
theorem dX12_sizeOf_1 : decode cX12_sizeOf 1 = .ok (.istore_n 2, 1) := by decide +kernel
theorem dX12_sizeOf_2 : decode cX12_sizeOf 2 = .ok (.iconst 0, 1) := by decide +kernel
theorem dX12_sizeOf_3 : decode cX12_sizeOf 3 = .ok (.istore_n 3, 1) := by decide +kernel
theorem dX12_sizeOf_4 : decode cX12_sizeOf 4 = .ok (.iload_n 3, 1) := by decide +kernel
theorem dX12_sizeOf_5 : decode cX12_sizeOf 5 = .ok (.aload_n 0, 1) := by decide +kernel
theorem dX12_sizeOf_6 : decode cX12_sizeOf 6 = .ok (.getfield 446, 3) := by decide +kernel
theorem dX12_sizeOf_9 : decode cX12_sizeOf 9 = .ok (.if_icmp .ge 51, 3) := by decide +kernel
theorem dX12_sizeOf_12 : decode cX12_sizeOf 12 = .ok (.aload_n 0, 1) := by decide +kernel
theorem dX12_sizeOf_13 : decode cX12_sizeOf 13 = .ok (.getfield 62, 3) := by decide +kernel
theorem dX12_sizeOf_16 : decode cX12_sizeOf 16 = .ok (.iload_n 3, 1) := by decide +kernel
theorem dX12_sizeOf_17 : decode cX12_sizeOf 17 = .ok (.iaload, 1) := by decide +kernel
theorem dX12_sizeOf_18 : decode cX12_sizeOf 18 = .ok (.invokestatic 412, 3) := by decide +kernel
theorem dX12_sizeOf_21 : decode cX12_sizeOf 21 = .ok (.istore 4, 2) := by decide +kernel
theorem dX12_sizeOf_23 : decode cX12_sizeOf 23 = .ok (.iload_n 2, 1) := by decide +kernel
theorem dX12_sizeOf_24 : decode cX12_sizeOf 24 = .ok (.iconst (-1), 1) := by decide +kernel
theorem dX12_sizeOf_25 : decode cX12_sizeOf 25 = .ok (.if_icmp .eq 22, 3) := by decide +kernel
theorem dX12_sizeOf_28 : decode cX12_sizeOf 28 = .ok (.iload_n 1, 1) := by decide +kernel
theorem dX12_sizeOf_29 : decode cX12_sizeOf 29 = .ok (.ifCond .eq 12, 3) := by decide +kernel
theorem dX12_sizeOf_32 : decode cX12_sizeOf 32 = .ok (.iload 4, 2) := by decide +kernel
theorem dX12_sizeOf_34 : decode cX12_sizeOf 34 = .ok (.iload_n 2, 1) := by decide +kernel
theorem dX12_sizeOf_35 : decode cX12_sizeOf 35 = .ok (.if_icmp .le 17, 3) := by decide +kernel
theorem dX12_sizeOf_38 : decode cX12_sizeOf 38 = .ok (.goto 9, 3) := by decide +kernel
theorem dX12_sizeOf_41 : decode cX12_sizeOf 41 = .ok (.iload 4, 2) := by decide +kernel
theorem dX12_sizeOf_43 : decode cX12_sizeOf 43 = .ok (.iload_n 2, 1) := by decide +kernel
theorem dX12_sizeOf_44 : decode cX12_sizeOf 44 = .ok (.if_icmp .ge 8, 3) := by decide +kernel
theorem dX12_sizeOf_47 : decode cX12_sizeOf 47 = .ok (.iload 4, 2) := by decide +kernel
theorem dX12_sizeOf_49 : decode cX12_sizeOf 49 = .ok (.goto 4, 3) := by decide +kernel
theorem dX12_sizeOf_52 : decode cX12_sizeOf 52 = .ok (.iload_n 2, 1) := by decide +kernel
theorem dX12_sizeOf_53 : decode cX12_sizeOf 53 = .ok (.istore_n 2, 1) := by decide +kernel
theorem dX12_sizeOf_54 : decode cX12_sizeOf 54 = .ok (.iinc 3 1, 3) := by decide +kernel
theorem dX12_sizeOf_57 : decode cX12_sizeOf 57 = .ok (.goto (-53), 3) := by decide +kernel
theorem dX12_sizeOf_60 : decode cX12_sizeOf 60 = .ok (.iload_n 2, 1) := by decide +kernel
theorem dX12_sizeOf_61 : decode cX12_sizeOf 61 = .ok (.ireturn, 1) := by decide +kernel
theorem dX12_fewestLies_0 : decode cX12_fewestLies 0 = .ok (.bipush 8, 2) := by decide +kernel
theorem dX12_fewestLies_2 : decode cX12_fewestLies 2 = .ok (.istore_n 1, 1) := by decide +kernel
theorem dX12_fewestLies_3 : decode cX12_fewestLies 3 = .ok (.iconst 0, 1) := by decide +kernel
theorem dX12_fewestLies_4 : decode cX12_fewestLies 4 = .ok (.istore_n 2, 1) := by decide +kernel
theorem dX12_fewestLies_5 : decode cX12_fewestLies 5 = .ok (.iload_n 2, 1) := by decide +kernel
theorem dX12_fewestLies_6 : decode cX12_fewestLies 6 = .ok (.bipush 64, 2) := by decide +kernel
theorem dX12_fewestLies_8 : decode cX12_fewestLies 8 = .ok (.if_icmp .ge 19, 3) := by decide +kernel
theorem dX12_fewestLies_11 : decode cX12_fewestLies 11 = .ok (.iload_n 1, 1) := by decide +kernel
theorem dX12_fewestLies_12 : decode cX12_fewestLies 12 = .ok (.aload_n 0, 1) := by decide +kernel
theorem dX12_fewestLies_13 : decode cX12_fewestLies 13 = .ok (.iload_n 2, 1) := by decide +kernel
theorem dX12_fewestLies_14 : decode cX12_fewestLies 14 = .ok (.invokevirtual 449, 3) := by decide +kernel
theorem dX12_fewestLies_17 : decode cX12_fewestLies 17 = .ok (.invokestatic 209, 3) := by decide +kernel
theorem dX12_fewestLies_20 : decode cX12_fewestLies 20 = .ok (.istore_n 1, 1) := by decide +kernel
theorem dX12_fewestLies_21 : decode cX12_fewestLies 21 = .ok (.iinc 2 1, 3) := by decide +kernel
theorem dX12_fewestLies_24 : decode cX12_fewestLies 24 = .ok (.goto (-19), 3) := by decide +kernel
theorem dX12_fewestLies_27 : decode cX12_fewestLies 27 = .ok (.iload_n 1, 1) := by decide +kernel
theorem dX12_fewestLies_28 : decode cX12_fewestLies 28 = .ok (.ireturn, 1) := by decide +kernel
theorem dX12_isNeedless_0 : decode cX12_isNeedless 0 = .ok (.iconst 1, 1) := by decide +kernel
theorem dX12_isNeedless_1 : decode cX12_isNeedless 1 = .ok (.istore_n 2, 1) := by decide +kernel
theorem dX12_isNeedless_2 : decode cX12_isNeedless 2 = .ok (.iconst 0, 1) := by decide +kernel
theorem dX12_isNeedless_3 : decode cX12_isNeedless 3 = .ok (.istore_n 3, 1) := by decide +kernel
theorem dX12_isNeedless_4 : decode cX12_isNeedless 4 = .ok (.iload_n 3, 1) := by decide +kernel
theorem dX12_isNeedless_5 : decode cX12_isNeedless 5 = .ok (.bipush 64, 2) := by decide +kernel
theorem dX12_isNeedless_7 : decode cX12_isNeedless 7 = .ok (.if_icmp .ge 70, 3) := by decide +kernel
theorem dX12_isNeedless_10 : decode cX12_isNeedless 10 = .ok (.aload_n 0, 1) := by decide +kernel
theorem dX12_isNeedless_11 : decode cX12_isNeedless 11 = .ok (.iconst (-1), 1) := by decide +kernel
theorem dX12_isNeedless_12 : decode cX12_isNeedless 12 = .ok (.putfield 443, 3) := by decide +kernel
theorem dX12_isNeedless_15 : decode cX12_isNeedless 15 = .ok (.aload_n 0, 1) := by decide +kernel
theorem dX12_isNeedless_16 : decode cX12_isNeedless 16 = .ok (.iload_n 3, 1) := by decide +kernel
theorem dX12_isNeedless_17 : decode cX12_isNeedless 17 = .ok (.invokevirtual 449, 3) := by decide +kernel
theorem dX12_isNeedless_20 : decode cX12_isNeedless 20 = .ok (.aload_n 0, 1) := by decide +kernel
theorem dX12_isNeedless_21 : decode cX12_isNeedless 21 = .ok (.invokevirtual 431, 3) := by decide +kernel
theorem dX12_isNeedless_24 : decode cX12_isNeedless 24 = .ok (.if_icmp .gt 7, 3) := by decide +kernel
theorem dX12_isNeedless_27 : decode cX12_isNeedless 27 = .ok (.iconst 1, 1) := by decide +kernel
theorem dX12_isNeedless_28 : decode cX12_isNeedless 28 = .ok (.goto 4, 3) := by decide +kernel
theorem dX12_isNeedless_31 : decode cX12_isNeedless 31 = .ok (.iconst 0, 1) := by decide +kernel
theorem dX12_isNeedless_32 : decode cX12_isNeedless 32 = .ok (.istore 4, 2) := by decide +kernel
theorem dX12_isNeedless_34 : decode cX12_isNeedless 34 = .ok (.aload_n 0, 1) := by decide +kernel
theorem dX12_isNeedless_35 : decode cX12_isNeedless 35 = .ok (.iload_n 1, 1) := by decide +kernel
theorem dX12_isNeedless_36 : decode cX12_isNeedless 36 = .ok (.putfield 443, 3) := by decide +kernel
theorem dX12_isNeedless_39 : decode cX12_isNeedless 39 = .ok (.iload_n 2, 1) := by decide +kernel
theorem dX12_isNeedless_40 : decode cX12_isNeedless 40 = .ok (.ifCond .eq 29, 3) := by decide +kernel
theorem dX12_isNeedless_43 : decode cX12_isNeedless 43 = .ok (.iload 4, 2) := by decide +kernel
theorem dX12_isNeedless_45 : decode cX12_isNeedless 45 = .ok (.aload_n 0, 1) := by decide +kernel
theorem dX12_isNeedless_46 : decode cX12_isNeedless 46 = .ok (.iload_n 3, 1) := by decide +kernel
theorem dX12_isNeedless_47 : decode cX12_isNeedless 47 = .ok (.invokevirtual 449, 3) := by decide +kernel
theorem dX12_isNeedless_50 : decode cX12_isNeedless 50 = .ok (.aload_n 0, 1) := by decide +kernel
theorem dX12_isNeedless_51 : decode cX12_isNeedless 51 = .ok (.invokevirtual 431, 3) := by decide +kernel
theorem dX12_isNeedless_54 : decode cX12_isNeedless 54 = .ok (.if_icmp .gt 7, 3) := by decide +kernel
theorem dX12_isNeedless_57 : decode cX12_isNeedless 57 = .ok (.iconst 1, 1) := by decide +kernel
theorem dX12_isNeedless_58 : decode cX12_isNeedless 58 = .ok (.goto 4, 3) := by decide +kernel
theorem dX12_isNeedless_61 : decode cX12_isNeedless 61 = .ok (.iconst 0, 1) := by decide +kernel
theorem dX12_isNeedless_62 : decode cX12_isNeedless 62 = .ok (.if_icmp .ne 7, 3) := by decide +kernel
theorem dX12_isNeedless_65 : decode cX12_isNeedless 65 = .ok (.iconst 1, 1) := by decide +kernel
theorem dX12_isNeedless_66 : decode cX12_isNeedless 66 = .ok (.goto 4, 3) := by decide +kernel
theorem dX12_isNeedless_69 : decode cX12_isNeedless 69 = .ok (.iconst 0, 1) := by decide +kernel
theorem dX12_isNeedless_70 : decode cX12_isNeedless 70 = .ok (.istore_n 2, 1) := by decide +kernel
theorem dX12_isNeedless_71 : decode cX12_isNeedless 71 = .ok (.iinc 3 1, 3) := by decide +kernel
theorem dX12_isNeedless_74 : decode cX12_isNeedless 74 = .ok (.goto (-70), 3) := by decide +kernel
theorem dX12_isNeedless_77 : decode cX12_isNeedless 77 = .ok (.aload_n 0, 1) := by decide +kernel
theorem dX12_isNeedless_78 : decode cX12_isNeedless 78 = .ok (.iconst (-1), 1) := by decide +kernel
theorem dX12_isNeedless_79 : decode cX12_isNeedless 79 = .ok (.putfield 443, 3) := by decide +kernel
theorem dX12_isNeedless_82 : decode cX12_isNeedless 82 = .ok (.iload_n 2, 1) := by decide +kernel
theorem dX12_isNeedless_83 : decode cX12_isNeedless 83 = .ok (.ireturn, 1) := by decide +kernel
theorem dX12_needless_0 : decode cX12_needless 0 = .ok (.iconst 0, 1) := by decide +kernel
theorem dX12_needless_1 : decode cX12_needless 1 = .ok (.istore_n 1, 1) := by decide +kernel
theorem dX12_needless_2 : decode cX12_needless 2 = .ok (.iconst 0, 1) := by decide +kernel
theorem dX12_needless_3 : decode cX12_needless 3 = .ok (.istore_n 2, 1) := by decide +kernel
theorem dX12_needless_4 : decode cX12_needless 4 = .ok (.iload_n 2, 1) := by decide +kernel
theorem dX12_needless_5 : decode cX12_needless 5 = .ok (.aload_n 0, 1) := by decide +kernel
theorem dX12_needless_6 : decode cX12_needless 6 = .ok (.invokevirtual 434, 3) := by decide +kernel
theorem dX12_needless_9 : decode cX12_needless 9 = .ok (.if_icmp .ge 27, 3) := by decide +kernel
theorem dX12_needless_12 : decode cX12_needless 12 = .ok (.iload_n 1, 1) := by decide +kernel
theorem dX12_needless_13 : decode cX12_needless 13 = .ok (.aload_n 0, 1) := by decide +kernel
theorem dX12_needless_14 : decode cX12_needless 14 = .ok (.iload_n 2, 1) := by decide +kernel
theorem dX12_needless_15 : decode cX12_needless 15 = .ok (.invokevirtual 551, 3) := by decide +kernel
theorem dX12_needless_18 : decode cX12_needless 18 = .ok (.ifCond .eq 9, 3) := by decide +kernel
theorem dX12_needless_21 : decode cX12_needless 21 = .ok (.iconst 1, 1) := by decide +kernel
theorem dX12_needless_22 : decode cX12_needless 22 = .ok (.iload_n 2, 1) := by decide +kernel
theorem dX12_needless_23 : decode cX12_needless 23 = .ok (.ishl, 1) := by decide +kernel
theorem dX12_needless_24 : decode cX12_needless 24 = .ok (.goto 4, 3) := by decide +kernel
theorem dX12_needless_27 : decode cX12_needless 27 = .ok (.iconst 0, 1) := by decide +kernel
theorem dX12_needless_28 : decode cX12_needless 28 = .ok (.ior, 1) := by decide +kernel
theorem dX12_needless_29 : decode cX12_needless 29 = .ok (.istore_n 1, 1) := by decide +kernel
theorem dX12_needless_30 : decode cX12_needless 30 = .ok (.iinc 2 1, 3) := by decide +kernel
theorem dX12_needless_33 : decode cX12_needless 33 = .ok (.goto (-29), 3) := by decide +kernel
theorem dX12_needless_36 : decode cX12_needless 36 = .ok (.iload_n 1, 1) := by decide +kernel
theorem dX12_needless_37 : decode cX12_needless 37 = .ok (.ireturn, 1) := by decide +kernel
theorem dX12_small_0 : decode cX12_small 0 = .ok (.aload_n 0, 1) := by decide +kernel
theorem dX12_small_1 : decode cX12_small 1 = .ok (.iconst 0, 1) := by decide +kernel
theorem dX12_small_2 : decode cX12_small 2 = .ok (.putfield 72, 3) := by decide +kernel
theorem dX12_small_5 : decode cX12_small 5 = .ok (.aload_n 0, 1) := by decide +kernel
theorem dX12_small_6 : decode cX12_small 6 = .ok (.iload_n 1, 1) := by decide +kernel
theorem dX12_small_7 : decode cX12_small 7 = .ok (.invokevirtual 458, 3) := by decide +kernel
theorem dX12_small_10 : decode cX12_small 10 = .ok (.ifCond .ne 6, 3) := by decide +kernel
theorem dX12_small_13 : decode cX12_small 13 = .ok (.bipush (-2), 2) := by decide +kernel
theorem dX12_small_15 : decode cX12_small 15 = .ok (.ireturn, 1) := by decide +kernel
theorem dX12_small_16 : decode cX12_small 16 = .ok (.iload_n 2, 1) := by decide +kernel
theorem dX12_small_17 : decode cX12_small 17 = .ok (.tableswitch 56 0 3 #[31, 31, 46, 51], 31) := by decide +kernel
theorem dX12_small_48 : decode cX12_small 48 = .ok (.aload_n 0, 1) := by decide +kernel
theorem dX12_small_49 : decode cX12_small 49 = .ok (.iload_n 2, 1) := by decide +kernel
theorem dX12_small_50 : decode cX12_small 50 = .ok (.iconst 1, 1) := by decide +kernel
theorem dX12_small_51 : decode cX12_small 51 = .ok (.if_icmp .ne 7, 3) := by decide +kernel
theorem dX12_small_54 : decode cX12_small 54 = .ok (.iconst 1, 1) := by decide +kernel
theorem dX12_small_55 : decode cX12_small 55 = .ok (.goto 4, 3) := by decide +kernel
theorem dX12_small_58 : decode cX12_small 58 = .ok (.iconst 0, 1) := by decide +kernel
theorem dX12_small_59 : decode cX12_small 59 = .ok (.invokevirtual 554, 3) := by decide +kernel
theorem dX12_small_62 : decode cX12_small 62 = .ok (.ireturn, 1) := by decide +kernel
theorem dX12_small_63 : decode cX12_small 63 = .ok (.aload_n 0, 1) := by decide +kernel
theorem dX12_small_64 : decode cX12_small 64 = .ok (.invokevirtual 557, 3) := by decide +kernel
theorem dX12_small_67 : decode cX12_small 67 = .ok (.ireturn, 1) := by decide +kernel
theorem dX12_small_68 : decode cX12_small 68 = .ok (.aload_n 0, 1) := by decide +kernel
theorem dX12_small_69 : decode cX12_small 69 = .ok (.invokevirtual 560, 3) := by decide +kernel
theorem dX12_small_72 : decode cX12_small 72 = .ok (.ireturn, 1) := by decide +kernel
theorem dX12_small_73 : decode cX12_small 73 = .ok (.bipush (-2), 2) := by decide +kernel
theorem dX12_small_75 : decode cX12_small 75 = .ok (.ireturn, 1) := by decide +kernel
theorem dX12_count_0 : decode cX12_count 0 = .ok (.aload_n 0, 1) := by decide +kernel
theorem dX12_count_1 : decode cX12_count 1 = .ok (.iconst 0, 1) := by decide +kernel
theorem dX12_count_2 : decode cX12_count 2 = .ok (.putfield 72, 3) := by decide +kernel
theorem dX12_count_5 : decode cX12_count 5 = .ok (.iload_n 1, 1) := by decide +kernel
theorem dX12_count_6 : decode cX12_count 6 = .ok (.iconst 0, 1) := by decide +kernel
theorem dX12_count_7 : decode cX12_count 7 = .ok (.iconst 2, 1) := by decide +kernel
theorem dX12_count_8 : decode cX12_count 8 = .ok (.invokestatic 84, 3) := by decide +kernel
theorem dX12_count_11 : decode cX12_count 11 = .ok (.ifCond .eq 12, 3) := by decide +kernel
theorem dX12_count_14 : decode cX12_count 14 = .ok (.aload_n 0, 1) := by decide +kernel
theorem dX12_count_15 : decode cX12_count 15 = .ok (.getfield 23, 3) := by decide +kernel
theorem dX12_count_18 : decode cX12_count 18 = .ok (.iload_n 1, 1) := by decide +kernel
theorem dX12_count_19 : decode cX12_count 19 = .ok (.iaload, 1) := by decide +kernel
theorem dX12_count_20 : decode cX12_count 20 = .ok (.goto 5, 3) := by decide +kernel
theorem dX12_count_23 : decode cX12_count 23 = .ok (.bipush (-2), 2) := by decide +kernel
theorem dX12_count_25 : decode cX12_count 25 = .ok (.ireturn, 1) := by decide +kernel
theorem dX12_image_0 : decode cX12_image 0 = .ok (.aload_n 0, 1) := by decide +kernel
theorem dX12_image_1 : decode cX12_image 1 = .ok (.iconst 0, 1) := by decide +kernel
theorem dX12_image_2 : decode cX12_image 2 = .ok (.putfield 72, 3) := by decide +kernel
theorem dX12_image_5 : decode cX12_image 5 = .ok (.iload_n 1, 1) := by decide +kernel
theorem dX12_image_6 : decode cX12_image 6 = .ok (.iconst 0, 1) := by decide +kernel
theorem dX12_image_7 : decode cX12_image 7 = .ok (.iconst 2, 1) := by decide +kernel
theorem dX12_image_8 : decode cX12_image 8 = .ok (.invokestatic 84, 3) := by decide +kernel
theorem dX12_image_11 : decode cX12_image 11 = .ok (.ifCond .ne 5, 3) := by decide +kernel
theorem dX12_image_14 : decode cX12_image 14 = .ok (.iconst 0, 1) := by decide +kernel
theorem dX12_image_15 : decode cX12_image 15 = .ok (.ireturn, 1) := by decide +kernel
theorem dX12_image_16 : decode cX12_image 16 = .ok (.aload_n 0, 1) := by decide +kernel
theorem dX12_image_17 : decode cX12_image 17 = .ok (.iconst 0, 1) := by decide +kernel
theorem dX12_image_18 : decode cX12_image 18 = .ok (.iload_n 1, 1) := by decide +kernel
theorem dX12_image_19 : decode cX12_image 19 = .ok (.iconst 1, 1) := by decide +kernel
theorem dX12_image_20 : decode cX12_image 20 = .ok (.iadd, 1) := by decide +kernel
theorem dX12_image_21 : decode cX12_image 21 = .ok (.invokevirtual 563, 3) := by decide +kernel
theorem dX12_image_24 : decode cX12_image 24 = .ok (.aload_n 0, 1) := by decide +kernel
theorem dX12_image_25 : decode cX12_image 25 = .ok (.getfield 68, 3) := by decide +kernel
theorem dX12_image_28 : decode cX12_image 28 = .ok (.iload_n 1, 1) := by decide +kernel
theorem dX12_image_29 : decode cX12_image 29 = .ok (.iconst 1, 1) := by decide +kernel
theorem dX12_image_30 : decode cX12_image 30 = .ok (.bastore, 1) := by decide +kernel
theorem dX12_image_31 : decode cX12_image 31 = .ok (.iconst 1, 1) := by decide +kernel
theorem dX12_image_32 : decode cX12_image 32 = .ok (.ireturn, 1) := by decide +kernel
theorem dX12_again_0 : decode cX12_again 0 = .ok (.aload_n 0, 1) := by decide +kernel
theorem dX12_again_1 : decode cX12_again 1 = .ok (.iconst 0, 1) := by decide +kernel
theorem dX12_again_2 : decode cX12_again 2 = .ok (.putfield 72, 3) := by decide +kernel
theorem dX12_again_5 : decode cX12_again 5 = .ok (.iload_n 1, 1) := by decide +kernel
theorem dX12_again_6 : decode cX12_again 6 = .ok (.iconst 0, 1) := by decide +kernel
theorem dX12_again_7 : decode cX12_again 7 = .ok (.iconst 2, 1) := by decide +kernel
theorem dX12_again_8 : decode cX12_again 8 = .ok (.invokestatic 84, 3) := by decide +kernel
theorem dX12_again_11 : decode cX12_again 11 = .ok (.ifCond .eq 12, 3) := by decide +kernel
theorem dX12_again_14 : decode cX12_again 14 = .ok (.aload_n 0, 1) := by decide +kernel
theorem dX12_again_15 : decode cX12_again 15 = .ok (.getfield 68, 3) := by decide +kernel
theorem dX12_again_18 : decode cX12_again 18 = .ok (.iload_n 1, 1) := by decide +kernel
theorem dX12_again_19 : decode cX12_again 19 = .ok (.baload, 1) := by decide +kernel
theorem dX12_again_20 : decode cX12_again 20 = .ok (.ifCond .ne 5, 3) := by decide +kernel
theorem dX12_again_23 : decode cX12_again 23 = .ok (.iconst 0, 1) := by decide +kernel
theorem dX12_again_24 : decode cX12_again 24 = .ok (.ireturn, 1) := by decide +kernel
theorem dX12_again_25 : decode cX12_again 25 = .ok (.aload_n 0, 1) := by decide +kernel
theorem dX12_again_26 : decode cX12_again 26 = .ok (.iload_n 1, 1) := by decide +kernel
theorem dX12_again_27 : decode cX12_again 27 = .ok (.iconst 1, 1) := by decide +kernel
theorem dX12_again_28 : decode cX12_again 28 = .ok (.iadd, 1) := by decide +kernel
theorem dX12_again_29 : decode cX12_again 29 = .ok (.iconst 0, 1) := by decide +kernel
theorem dX12_again_30 : decode cX12_again 30 = .ok (.invokevirtual 563, 3) := by decide +kernel
theorem dX12_again_33 : decode cX12_again 33 = .ok (.iconst 1, 1) := by decide +kernel
theorem dX12_again_34 : decode cX12_again 34 = .ok (.ireturn, 1) := by decide +kernel
