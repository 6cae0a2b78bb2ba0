theorem dX8_at_0 : decode cX8_at 0 = .ok (.iload_n 1, 1) := by decide +kernel
theorem dX8_at_1 : decode cX8_at 1 = .ok (.ifCond .lt 15, 3) := by decide +kernel
theorem dX8_at_4 : decode cX8_at 4 = .ok (.iload_n 1, 1) := by decide +kernel
theorem dX8_at_5 : decode cX8_at 5 = .ok (.aload_n 0, 1) := by decide +kernel
theorem dX8_at_6 : decode cX8_at 6 = .ok (.arraylength, 1) := by decide +kernel
theorem dX8_at_7 : decode cX8_at 7 = .ok (.if_icmp .ge 9, 3) := by decide +kernel
theorem dX8_at_10 : decode cX8_at 10 = .ok (.aload_n 0, 1) := by decide +kernel
theorem dX8_at_11 : decode cX8_at 11 = .ok (.iload_n 1, 1) := by decide +kernel
theorem dX8_at_12 : decode cX8_at 12 = .ok (.iaload, 1) := by decide +kernel
theorem dX8_at_13 : decode cX8_at 13 = .ok (.goto 4, 3) := by decide +kernel
theorem dX8_at_16 : decode cX8_at 16 = .ok (.iconst 0, 1) := by decide +kernel
theorem dX8_at_17 : decode cX8_at 17 = .ok (.ireturn, 1) := by decide +kernel
theorem dX8_set_0 : decode cX8_set 0 = .ok (.iload_n 1, 1) := by decide +kernel
theorem dX8_set_1 : decode cX8_set 1 = .ok (.ifCond .lt 13, 3) := by decide +kernel
theorem dX8_set_4 : decode cX8_set 4 = .ok (.iload_n 1, 1) := by decide +kernel
theorem dX8_set_5 : decode cX8_set 5 = .ok (.aload_n 0, 1) := by decide +kernel
theorem dX8_set_6 : decode cX8_set 6 = .ok (.arraylength, 1) := by decide +kernel
theorem dX8_set_7 : decode cX8_set 7 = .ok (.if_icmp .ge 7, 3) := by decide +kernel
theorem dX8_set_10 : decode cX8_set 10 = .ok (.aload_n 0, 1) := by decide +kernel
theorem dX8_set_11 : decode cX8_set 11 = .ok (.iload_n 1, 1) := by decide +kernel
theorem dX8_set_12 : decode cX8_set 12 = .ok (.iload_n 2, 1) := by decide +kernel
theorem dX8_set_13 : decode cX8_set 13 = .ok (.iastore, 1) := by decide +kernel
theorem dX8_set_14 : decode cX8_set 14 = .ok (.return_, 1) := by decide +kernel
theorem dX8_far_0 : decode cX8_far 0 = .ok (.iload_n 0, 1) := by decide +kernel
theorem dX8_far_1 : decode cX8_far 1 = .ok (.iload_n 2, 1) := by decide +kernel
theorem dX8_far_2 : decode cX8_far 2 = .ok (.isub, 1) := by decide +kernel
theorem dX8_far_3 : decode cX8_far 3 = .ok (.invokestatic 9, 3) := by decide +kernel
theorem dX8_far_6 : decode cX8_far 6 = .ok (.iload_n 1, 1) := by decide +kernel
theorem dX8_far_7 : decode cX8_far 7 = .ok (.iload_n 3, 1) := by decide +kernel
theorem dX8_far_8 : decode cX8_far 8 = .ok (.isub, 1) := by decide +kernel
theorem dX8_far_9 : decode cX8_far 9 = .ok (.invokestatic 9, 3) := by decide +kernel
theorem dX8_far_12 : decode cX8_far 12 = .ok (.iadd, 1) := by decide +kernel
theorem dX8_far_13 : decode cX8_far 13 = .ok (.ireturn, 1) := by decide +kernel
theorem dX8_divisor_0 : decode cX8_divisor 0 = .ok (.lload_n 0, 1) := by decide +kernel
theorem dX8_divisor_1 : decode cX8_divisor 1 = .ok (.lstore 4, 2) := by decide +kernel
theorem dX8_divisor_3 : decode cX8_divisor 3 = .ok (.lload_n 2, 1) := by decide +kernel
theorem dX8_divisor_4 : decode cX8_divisor 4 = .ok (.lstore 6, 2) := by decide +kernel
theorem dX8_divisor_6 : decode cX8_divisor 6 = .ok (.iconst 0, 1) := by decide +kernel
theorem dX8_divisor_7 : decode cX8_divisor 7 = .ok (.istore 8, 2) := by decide +kernel
theorem dX8_divisor_9 : decode cX8_divisor 9 = .ok (.iload 8, 2) := by decide +kernel
theorem dX8_divisor_11 : decode cX8_divisor 11 = .ok (.bipush 100, 2) := by decide +kernel
theorem dX8_divisor_13 : decode cX8_divisor 13 = .ok (.if_icmp .ge 31, 3) := by decide +kernel
theorem dX8_divisor_16 : decode cX8_divisor 16 = .ok (.lload 6, 2) := by decide +kernel
theorem dX8_divisor_18 : decode cX8_divisor 18 = .ok (.lconst 0, 1) := by decide +kernel
theorem dX8_divisor_19 : decode cX8_divisor 19 = .ok (.lcmp, 1) := by decide +kernel
theorem dX8_divisor_20 : decode cX8_divisor 20 = .ok (.ifCond .eq 24, 3) := by decide +kernel
theorem dX8_divisor_23 : decode cX8_divisor 23 = .ok (.lload 4, 2) := by decide +kernel
theorem dX8_divisor_25 : decode cX8_divisor 25 = .ok (.lload 6, 2) := by decide +kernel
theorem dX8_divisor_27 : decode cX8_divisor 27 = .ok (.lrem, 1) := by decide +kernel
theorem dX8_divisor_28 : decode cX8_divisor 28 = .ok (.lstore 9, 2) := by decide +kernel
theorem dX8_divisor_30 : decode cX8_divisor 30 = .ok (.lload 6, 2) := by decide +kernel
theorem dX8_divisor_32 : decode cX8_divisor 32 = .ok (.lstore 4, 2) := by decide +kernel
theorem dX8_divisor_34 : decode cX8_divisor 34 = .ok (.lload 9, 2) := by decide +kernel
theorem dX8_divisor_36 : decode cX8_divisor 36 = .ok (.lstore 6, 2) := by decide +kernel
theorem dX8_divisor_38 : decode cX8_divisor 38 = .ok (.iinc 8 1, 3) := by decide +kernel
theorem dX8_divisor_41 : decode cX8_divisor 41 = .ok (.goto (-32), 3) := by decide +kernel
theorem dX8_divisor_44 : decode cX8_divisor 44 = .ok (.lload 4, 2) := by decide +kernel
theorem dX8_divisor_46 : decode cX8_divisor 46 = .ok (.lreturn, 1) := by decide +kernel
theorem dX8_part_0 : decode cX8_part 0 = .ok (.lload_n 0, 1) := by decide +kernel
theorem dX8_part_1 : decode cX8_part 1 = .ok (.lload_n 2, 1) := by decide +kernel
theorem dX8_part_2 : decode cX8_part 2 = .ok (.invokestatic 15, 3) := by decide +kernel
theorem dX8_part_5 : decode cX8_part 5 = .ok (.lstore 5, 2) := by decide +kernel
theorem dX8_part_7 : decode cX8_part 7 = .ok (.lload 5, 2) := by decide +kernel
theorem dX8_part_9 : decode cX8_part 9 = .ok (.lconst 0, 1) := by decide +kernel
theorem dX8_part_10 : decode cX8_part 10 = .ok (.lcmp, 1) := by decide +kernel
theorem dX8_part_11 : decode cX8_part 11 = .ok (.ifCond .ne 7, 3) := by decide +kernel
theorem dX8_part_14 : decode cX8_part 14 = .ok (.ldc2_w 21, 3) := by decide +kernel
theorem dX8_part_17 : decode cX8_part 17 = .ok (.lreturn, 1) := by decide +kernel
theorem dX8_part_18 : decode cX8_part 18 = .ok (.iload 4, 2) := by decide +kernel
theorem dX8_part_20 : decode cX8_part 20 = .ok (.ifCond .eq 10, 3) := by decide +kernel
theorem dX8_part_23 : decode cX8_part 23 = .ok (.lload_n 2, 1) := by decide +kernel
theorem dX8_part_24 : decode cX8_part 24 = .ok (.lload 5, 2) := by decide +kernel
theorem dX8_part_26 : decode cX8_part 26 = .ok (.ldiv, 1) := by decide +kernel
theorem dX8_part_27 : decode cX8_part 27 = .ok (.goto 7, 3) := by decide +kernel
theorem dX8_part_30 : decode cX8_part 30 = .ok (.lload_n 0, 1) := by decide +kernel
theorem dX8_part_31 : decode cX8_part 31 = .ok (.lload 5, 2) := by decide +kernel
theorem dX8_part_33 : decode cX8_part 33 = .ok (.ldiv, 1) := by decide +kernel
theorem dX8_part_34 : decode cX8_part 34 = .ok (.lreturn, 1) := by decide +kernel
theorem dX8_power_0 : decode cX8_power 0 = .ok (.lconst 1, 1) := by decide +kernel
theorem dX8_power_1 : decode cX8_power 1 = .ok (.lstore_n 2, 1) := by decide +kernel
theorem dX8_power_2 : decode cX8_power 2 = .ok (.iconst 0, 1) := by decide +kernel
theorem dX8_power_3 : decode cX8_power 3 = .ok (.istore 4, 2) := by decide +kernel
theorem dX8_power_5 : decode cX8_power 5 = .ok (.iload 4, 2) := by decide +kernel
theorem dX8_power_7 : decode cX8_power 7 = .ok (.iload_n 1, 1) := by decide +kernel
theorem dX8_power_8 : decode cX8_power 8 = .ok (.if_icmp .ge 14, 3) := by decide +kernel
theorem dX8_power_11 : decode cX8_power 11 = .ok (.lload_n 2, 1) := by decide +kernel
theorem dX8_power_12 : decode cX8_power 12 = .ok (.iload_n 0, 1) := by decide +kernel
theorem dX8_power_13 : decode cX8_power 13 = .ok (.i2l, 1) := by decide +kernel
theorem dX8_power_14 : decode cX8_power 14 = .ok (.lmul, 1) := by decide +kernel
theorem dX8_power_15 : decode cX8_power 15 = .ok (.lstore_n 2, 1) := by decide +kernel
theorem dX8_power_16 : decode cX8_power 16 = .ok (.iinc 4 1, 3) := by decide +kernel
theorem dX8_power_19 : decode cX8_power 19 = .ok (.goto (-14), 3) := by decide +kernel
theorem dX8_power_22 : decode cX8_power 22 = .ok (.lload_n 2, 1) := by decide +kernel
theorem dX8_power_23 : decode cX8_power 23 = .ok (.lreturn, 1) := by decide +kernel
theorem dX8_choose_0 : decode cX8_choose 0 = .ok (.iload_n 1, 1) := by decide +kernel
theorem dX8_choose_1 : decode cX8_choose 1 = .ok (.ifCond .lt 8, 3) := by decide +kernel
theorem dX8_choose_4 : decode cX8_choose 4 = .ok (.iload_n 1, 1) := by decide +kernel
theorem dX8_choose_5 : decode cX8_choose 5 = .ok (.iload_n 0, 1) := by decide +kernel
theorem dX8_choose_6 : decode cX8_choose 6 = .ok (.if_icmp .le 5, 3) := by decide +kernel
theorem dX8_choose_9 : decode cX8_choose 9 = .ok (.lconst 0, 1) := by decide +kernel
theorem dX8_choose_10 : decode cX8_choose 10 = .ok (.lreturn, 1) := by decide +kernel
theorem dX8_choose_11 : decode cX8_choose 11 = .ok (.lconst 1, 1) := by decide +kernel
theorem dX8_choose_12 : decode cX8_choose 12 = .ok (.lstore_n 2, 1) := by decide +kernel
theorem dX8_choose_13 : decode cX8_choose 13 = .ok (.iconst 1, 1) := by decide +kernel
theorem dX8_choose_14 : decode cX8_choose 14 = .ok (.istore 4, 2) := by decide +kernel
theorem dX8_choose_16 : decode cX8_choose 16 = .ok (.iload 4, 2) := by decide +kernel
theorem dX8_choose_18 : decode cX8_choose 18 = .ok (.iload_n 1, 1) := by decide +kernel
theorem dX8_choose_19 : decode cX8_choose 19 = .ok (.if_icmp .gt 23, 3) := by decide +kernel
theorem dX8_choose_22 : decode cX8_choose 22 = .ok (.lload_n 2, 1) := by decide +kernel
theorem dX8_choose_23 : decode cX8_choose 23 = .ok (.iload_n 0, 1) := by decide +kernel
theorem dX8_choose_24 : decode cX8_choose 24 = .ok (.iload_n 1, 1) := by decide +kernel
theorem dX8_choose_25 : decode cX8_choose 25 = .ok (.isub, 1) := by decide +kernel
theorem dX8_choose_26 : decode cX8_choose 26 = .ok (.iload 4, 2) := by decide +kernel
theorem dX8_choose_28 : decode cX8_choose 28 = .ok (.iadd, 1) := by decide +kernel
theorem dX8_choose_29 : decode cX8_choose 29 = .ok (.i2l, 1) := by decide +kernel
theorem dX8_choose_30 : decode cX8_choose 30 = .ok (.lmul, 1) := by decide +kernel
theorem dX8_choose_31 : decode cX8_choose 31 = .ok (.iload 4, 2) := by decide +kernel
theorem dX8_choose_33 : decode cX8_choose 33 = .ok (.i2l, 1) := by decide +kernel
theorem dX8_choose_34 : decode cX8_choose 34 = .ok (.ldiv, 1) := by decide +kernel
theorem dX8_choose_35 : decode cX8_choose 35 = .ok (.lstore_n 2, 1) := by decide +kernel
theorem dX8_choose_36 : decode cX8_choose 36 = .ok (.iinc 4 1, 3) := by decide +kernel
theorem dX8_choose_39 : decode cX8_choose 39 = .ok (.goto (-23), 3) := by decide +kernel
theorem dX8_choose_42 : decode cX8_choose 42 = .ok (.lload_n 2, 1) := by decide +kernel
theorem dX8_choose_43 : decode cX8_choose 43 = .ok (.lreturn, 1) := by decide +kernel
theorem dX1_init_0 : decode cX1_init 0 = .ok (.aload_n 0, 1) := by decide +kernel
theorem dX1_init_1 : decode cX1_init 1 = .ok (.invokespecial 3, 3) := by decide +kernel
theorem dX1_init_4 : decode cX1_init 4 = .ok (.aload_n 0, 1) := by decide +kernel
theorem dX1_init_5 : decode cX1_init 5 = .ok (.sipush 160, 3) := by decide +kernel
theorem dX1_init_8 : decode cX1_init 8 = .ok (.newarray .int, 2) := by decide +kernel
theorem dX1_init_10 : decode cX1_init 10 = .ok (.putfield 9, 3) := by decide +kernel
theorem dX1_init_13 : decode cX1_init 13 = .ok (.return_, 1) := by decide +kernel
theorem dX1_copyFrom_0 : decode cX1_copyFrom 0 = .ok (.aload_n 0, 1) := by decide +kernel
theorem dX1_copyFrom_1 : decode cX1_copyFrom 1 = .ok (.aload_n 1, 1) := by decide +kernel
theorem dX1_copyFrom_2 : decode cX1_copyFrom 2 = .ok (.getfield 15, 3) := by decide +kernel
theorem dX1_copyFrom_5 : decode cX1_copyFrom 5 = .ok (.putfield 15, 3) := by decide +kernel
theorem dX1_copyFrom_8 : decode cX1_copyFrom 8 = .ok (.aload_n 1, 1) := by decide +kernel
theorem dX1_copyFrom_9 : decode cX1_copyFrom 9 = .ok (.getfield 9, 3) := by decide +kernel
theorem dX1_copyFrom_12 : decode cX1_copyFrom 12 = .ok (.iconst 0, 1) := by decide +kernel
theorem dX1_copyFrom_13 : decode cX1_copyFrom 13 = .ok (.aload_n 0, 1) := by decide +kernel
theorem dX1_copyFrom_14 : decode cX1_copyFrom 14 = .ok (.getfield 9, 3) := by decide +kernel
theorem dX1_copyFrom_17 : decode cX1_copyFrom 17 = .ok (.iconst 0, 1) := by decide +kernel
theorem dX1_copyFrom_18 : decode cX1_copyFrom 18 = .ok (.aload_n 0, 1) := by decide +kernel
theorem dX1_copyFrom_19 : decode cX1_copyFrom 19 = .ok (.getfield 9, 3) := by decide +kernel
theorem dX1_copyFrom_22 : decode cX1_copyFrom 22 = .ok (.arraylength, 1) := by decide +kernel
theorem dX1_copyFrom_23 : decode cX1_copyFrom 23 = .ok (.invokestatic 19, 3) := by decide +kernel
theorem dX1_copyFrom_26 : decode cX1_copyFrom 26 = .ok (.return_, 1) := by decide +kernel
theorem dX1_part_0 : decode cX1_part 0 = .ok (.aload_n 0, 1) := by decide +kernel
theorem dX1_part_1 : decode cX1_part 1 = .ok (.getfield 9, 3) := by decide +kernel
theorem dX1_part_4 : decode cX1_part 4 = .ok (.iconst 4, 1) := by decide +kernel
theorem dX1_part_5 : decode cX1_part 5 = .ok (.iload_n 1, 1) := by decide +kernel
theorem dX1_part_6 : decode cX1_part 6 = .ok (.imul, 1) := by decide +kernel
theorem dX1_part_7 : decode cX1_part 7 = .ok (.iload_n 2, 1) := by decide +kernel
theorem dX1_part_8 : decode cX1_part 8 = .ok (.iadd, 1) := by decide +kernel
theorem dX1_part_9 : decode cX1_part 9 = .ok (.invokestatic 25, 3) := by decide +kernel
theorem dX1_part_12 : decode cX1_part 12 = .ok (.ireturn, 1) := by decide +kernel
theorem dX1_add_0 : decode cX1_add 0 = .ok (.aload_n 0, 1) := by decide +kernel
theorem dX1_add_1 : decode cX1_add 1 = .ok (.getfield 15, 3) := by decide +kernel
theorem dX1_add_4 : decode cX1_add 4 = .ok (.bipush 40, 2) := by decide +kernel
theorem dX1_add_6 : decode cX1_add 6 = .ok (.if_icmp .lt 4, 3) := by decide +kernel
theorem dX1_add_9 : decode cX1_add 9 = .ok (.return_, 1) := by decide +kernel
theorem dX1_add_10 : decode cX1_add 10 = .ok (.aload_n 0, 1) := by decide +kernel
theorem dX1_add_11 : decode cX1_add 11 = .ok (.getfield 9, 3) := by decide +kernel
theorem dX1_add_14 : decode cX1_add 14 = .ok (.iconst 4, 1) := by decide +kernel
theorem dX1_add_15 : decode cX1_add 15 = .ok (.aload_n 0, 1) := by decide +kernel
theorem dX1_add_16 : decode cX1_add 16 = .ok (.getfield 15, 3) := by decide +kernel
theorem dX1_add_19 : decode cX1_add 19 = .ok (.imul, 1) := by decide +kernel
theorem dX1_add_20 : decode cX1_add 20 = .ok (.iload_n 1, 1) := by decide +kernel
theorem dX1_add_21 : decode cX1_add 21 = .ok (.invokestatic 31, 3) := by decide +kernel
theorem dX1_add_24 : decode cX1_add 24 = .ok (.iconst 0, 1) := by decide +kernel
theorem dX1_add_25 : decode cX1_add 25 = .ok (.istore 4, 2) := by decide +kernel
theorem dX1_add_27 : decode cX1_add 27 = .ok (.iload 4, 2) := by decide +kernel
theorem dX1_add_29 : decode cX1_add 29 = .ok (.iconst 3, 1) := by decide +kernel
theorem dX1_add_30 : decode cX1_add 30 = .ok (.if_icmp .ge 43, 3) := by decide +kernel
theorem dX1_add_33 : decode cX1_add 33 = .ok (.aload_n 0, 1) := by decide +kernel
theorem dX1_add_34 : decode cX1_add 34 = .ok (.getfield 9, 3) := by decide +kernel
theorem dX1_add_37 : decode cX1_add 37 = .ok (.iconst 4, 1) := by decide +kernel
theorem dX1_add_38 : decode cX1_add 38 = .ok (.aload_n 0, 1) := by decide +kernel
theorem dX1_add_39 : decode cX1_add 39 = .ok (.getfield 15, 3) := by decide +kernel
theorem dX1_add_42 : decode cX1_add 42 = .ok (.imul, 1) := by decide +kernel
theorem dX1_add_43 : decode cX1_add 43 = .ok (.iconst 1, 1) := by decide +kernel
theorem dX1_add_44 : decode cX1_add 44 = .ok (.iadd, 1) := by decide +kernel
theorem dX1_add_45 : decode cX1_add 45 = .ok (.iload 4, 2) := by decide +kernel
theorem dX1_add_47 : decode cX1_add 47 = .ok (.iadd, 1) := by decide +kernel
theorem dX1_add_48 : decode cX1_add 48 = .ok (.iload 4, 2) := by decide +kernel
theorem dX1_add_50 : decode cX1_add 50 = .ok (.iload_n 3, 1) := by decide +kernel
theorem dX1_add_51 : decode cX1_add 51 = .ok (.if_icmp .ge 12, 3) := by decide +kernel
theorem dX1_add_54 : decode cX1_add 54 = .ok (.aload_n 2, 1) := by decide +kernel
theorem dX1_add_55 : decode cX1_add 55 = .ok (.iload 4, 2) := by decide +kernel
theorem dX1_add_57 : decode cX1_add 57 = .ok (.invokestatic 25, 3) := by decide +kernel
theorem dX1_add_60 : decode cX1_add 60 = .ok (.goto 4, 3) := by decide +kernel
theorem dX1_add_63 : decode cX1_add 63 = .ok (.iconst (-1), 1) := by decide +kernel
theorem dX1_add_64 : decode cX1_add 64 = .ok (.invokestatic 31, 3) := by decide +kernel
theorem dX1_add_67 : decode cX1_add 67 = .ok (.iinc 4 1, 3) := by decide +kernel
theorem dX1_add_70 : decode cX1_add 70 = .ok (.goto (-43), 3) := by decide +kernel
theorem dX1_add_73 : decode cX1_add 73 = .ok (.aload_n 0, 1) := by decide +kernel
theorem dX1_add_74 : decode cX1_add 74 = .ok (.dup, 1) := by decide +kernel
theorem dX1_add_75 : decode cX1_add 75 = .ok (.getfield 15, 3) := by decide +kernel
theorem dX1_add_78 : decode cX1_add 78 = .ok (.iconst 1, 1) := by decide +kernel
theorem dX1_add_79 : decode cX1_add 79 = .ok (.iadd, 1) := by decide +kernel
theorem dX1_add_80 : decode cX1_add 80 = .ok (.putfield 15, 3) := by decide +kernel
theorem dX1_add_83 : decode cX1_add 83 = .ok (.return_, 1) := by decide +kernel
theorem dX1_tell_0 : decode cX1_tell 0 = .ok (.iload_n 1, 1) := by decide +kernel
theorem dX1_tell_1 : decode cX1_tell 1 = .ok (.iconst (-1), 1) := by decide +kernel
theorem dX1_tell_2 : decode cX1_tell 2 = .ok (.if_icmp .ne 17, 3) := by decide +kernel
theorem dX1_tell_5 : decode cX1_tell 5 = .ok (.iload_n 2, 1) := by decide +kernel
theorem dX1_tell_6 : decode cX1_tell 6 = .ok (.ifCond .ne 10, 3) := by decide +kernel
theorem dX1_tell_9 : decode cX1_tell 9 = .ok (.aload_n 0, 1) := by decide +kernel
theorem dX1_tell_10 : decode cX1_tell 10 = .ok (.getfield 15, 3) := by decide +kernel
theorem dX1_tell_13 : decode cX1_tell 13 = .ok (.goto 5, 3) := by decide +kernel
theorem dX1_tell_16 : decode cX1_tell 16 = .ok (.bipush (-2), 2) := by decide +kernel
theorem dX1_tell_18 : decode cX1_tell 18 = .ok (.ireturn, 1) := by decide +kernel
theorem dX1_tell_19 : decode cX1_tell 19 = .ok (.iload_n 1, 1) := by decide +kernel
theorem dX1_tell_20 : decode cX1_tell 20 = .ok (.ifCond .lt 20, 3) := by decide +kernel
theorem dX1_tell_23 : decode cX1_tell 23 = .ok (.iload_n 1, 1) := by decide +kernel
theorem dX1_tell_24 : decode cX1_tell 24 = .ok (.aload_n 0, 1) := by decide +kernel
theorem dX1_tell_25 : decode cX1_tell 25 = .ok (.getfield 15, 3) := by decide +kernel
theorem dX1_tell_28 : decode cX1_tell 28 = .ok (.if_icmp .ge 12, 3) := by decide +kernel
theorem dX1_tell_31 : decode cX1_tell 31 = .ok (.iload_n 2, 1) := by decide +kernel
theorem dX1_tell_32 : decode cX1_tell 32 = .ok (.ifCond .lt 8, 3) := by decide +kernel
theorem dX1_tell_35 : decode cX1_tell 35 = .ok (.iload_n 2, 1) := by decide +kernel
theorem dX1_tell_36 : decode cX1_tell 36 = .ok (.iconst 3, 1) := by decide +kernel
theorem dX1_tell_37 : decode cX1_tell 37 = .ok (.if_icmp .le 8, 3) := by decide +kernel
theorem dX1_tell_40 : decode cX1_tell 40 = .ok (.bipush (-2), 2) := by decide +kernel
theorem dX1_tell_42 : decode cX1_tell 42 = .ok (.goto 9, 3) := by decide +kernel
theorem dX1_tell_45 : decode cX1_tell 45 = .ok (.aload_n 0, 1) := by decide +kernel
theorem dX1_tell_46 : decode cX1_tell 46 = .ok (.iload_n 1, 1) := by decide +kernel
theorem dX1_tell_47 : decode cX1_tell 47 = .ok (.iload_n 2, 1) := by decide +kernel
theorem dX1_tell_48 : decode cX1_tell 48 = .ok (.invokevirtual 35, 3) := by decide +kernel
theorem dX1_tell_51 : decode cX1_tell 51 = .ok (.ireturn, 1) := by decide +kernel
theorem dX4_init_0 : decode cX4_init 0 = .ok (.aload_n 0, 1) := by decide +kernel
theorem dX4_init_1 : decode cX4_init 1 = .ok (.invokespecial 3, 3) := by decide +kernel
theorem dX4_init_4 : decode cX4_init 4 = .ok (.aload_n 0, 1) := by decide +kernel
theorem dX4_init_5 : decode cX4_init 5 = .ok (.bipush 8, 2) := by decide +kernel
theorem dX4_init_7 : decode cX4_init 7 = .ok (.newarray .int, 2) := by decide +kernel
theorem dX4_init_9 : decode cX4_init 9 = .ok (.putfield 9, 3) := by decide +kernel
theorem dX4_init_12 : decode cX4_init 12 = .ok (.aload_n 0, 1) := by decide +kernel
theorem dX4_init_13 : decode cX4_init 13 = .ok (.bipush 8, 2) := by decide +kernel
theorem dX4_init_15 : decode cX4_init 15 = .ok (.newarray .int, 2) := by decide +kernel
theorem dX4_init_17 : decode cX4_init 17 = .ok (.putfield 15, 3) := by decide +kernel
theorem dX4_init_20 : decode cX4_init 20 = .ok (.return_, 1) := by decide +kernel
theorem dX4_clear_0 : decode cX4_clear 0 = .ok (.aload_n 0, 1) := by decide +kernel
theorem dX4_clear_1 : decode cX4_clear 1 = .ok (.iconst 0, 1) := by decide +kernel
theorem dX4_clear_2 : decode cX4_clear 2 = .ok (.putfield 18, 3) := by decide +kernel
theorem dX4_clear_5 : decode cX4_clear 5 = .ok (.aload_n 0, 1) := by decide +kernel
theorem dX4_clear_6 : decode cX4_clear 6 = .ok (.iconst 0, 1) := by decide +kernel
theorem dX4_clear_7 : decode cX4_clear 7 = .ok (.putfield 22, 3) := by decide +kernel
theorem dX4_clear_10 : decode cX4_clear 10 = .ok (.return_, 1) := by decide +kernel
theorem dX4_copyFrom_0 : decode cX4_copyFrom 0 = .ok (.aload_n 0, 1) := by decide +kernel
theorem dX4_copyFrom_1 : decode cX4_copyFrom 1 = .ok (.aload_n 1, 1) := by decide +kernel
theorem dX4_copyFrom_2 : decode cX4_copyFrom 2 = .ok (.getfield 18, 3) := by decide +kernel
theorem dX4_copyFrom_5 : decode cX4_copyFrom 5 = .ok (.putfield 18, 3) := by decide +kernel
theorem dX4_copyFrom_8 : decode cX4_copyFrom 8 = .ok (.aload_n 0, 1) := by decide +kernel
theorem dX4_copyFrom_9 : decode cX4_copyFrom 9 = .ok (.aload_n 1, 1) := by decide +kernel
theorem dX4_copyFrom_10 : decode cX4_copyFrom 10 = .ok (.getfield 22, 3) := by decide +kernel
theorem dX4_copyFrom_13 : decode cX4_copyFrom 13 = .ok (.putfield 22, 3) := by decide +kernel
theorem dX4_copyFrom_16 : decode cX4_copyFrom 16 = .ok (.aload_n 1, 1) := by decide +kernel
theorem dX4_copyFrom_17 : decode cX4_copyFrom 17 = .ok (.getfield 9, 3) := by decide +kernel
theorem dX4_copyFrom_20 : decode cX4_copyFrom 20 = .ok (.iconst 0, 1) := by decide +kernel
theorem dX4_copyFrom_21 : decode cX4_copyFrom 21 = .ok (.aload_n 0, 1) := by decide +kernel
theorem dX4_copyFrom_22 : decode cX4_copyFrom 22 = .ok (.getfield 9, 3) := by decide +kernel
theorem dX4_copyFrom_25 : decode cX4_copyFrom 25 = .ok (.iconst 0, 1) := by decide +kernel
theorem dX4_copyFrom_26 : decode cX4_copyFrom 26 = .ok (.aload_n 0, 1) := by decide +kernel
theorem dX4_copyFrom_27 : decode cX4_copyFrom 27 = .ok (.getfield 9, 3) := by decide +kernel
theorem dX4_copyFrom_30 : decode cX4_copyFrom 30 = .ok (.arraylength, 1) := by decide +kernel
theorem dX4_copyFrom_31 : decode cX4_copyFrom 31 = .ok (.invokestatic 25, 3) := by decide +kernel
theorem dX4_copyFrom_34 : decode cX4_copyFrom 34 = .ok (.aload_n 1, 1) := by decide +kernel
theorem dX4_copyFrom_35 : decode cX4_copyFrom 35 = .ok (.getfield 15, 3) := by decide +kernel
theorem dX4_copyFrom_38 : decode cX4_copyFrom 38 = .ok (.iconst 0, 1) := by decide +kernel
theorem dX4_copyFrom_39 : decode cX4_copyFrom 39 = .ok (.aload_n 0, 1) := by decide +kernel
theorem dX4_copyFrom_40 : decode cX4_copyFrom 40 = .ok (.getfield 15, 3) := by decide +kernel
theorem dX4_copyFrom_43 : decode cX4_copyFrom 43 = .ok (.iconst 0, 1) := by decide +kernel
theorem dX4_copyFrom_44 : decode cX4_copyFrom 44 = .ok (.aload_n 0, 1) := by decide +kernel
theorem dX4_copyFrom_45 : decode cX4_copyFrom 45 = .ok (.getfield 15, 3) := by decide +kernel
theorem dX4_copyFrom_48 : decode cX4_copyFrom 48 = .ok (.arraylength, 1) := by decide +kernel
theorem dX4_copyFrom_49 : decode cX4_copyFrom 49 = .ok (.invokestatic 25, 3) := by decide +kernel
theorem dX4_copyFrom_52 : decode cX4_copyFrom 52 = .ok (.return_, 1) := by decide +kernel
theorem dX4_add_0 : decode cX4_add 0 = .ok (.aload_n 0, 1) := by decide +kernel
theorem dX4_add_1 : decode cX4_add 1 = .ok (.getfield 22, 3) := by decide +kernel
theorem dX4_add_4 : decode cX4_add 4 = .ok (.bipush 8, 2) := by decide +kernel
theorem dX4_add_6 : decode cX4_add 6 = .ok (.if_icmp .ge 37, 3) := by decide +kernel
theorem dX4_add_9 : decode cX4_add 9 = .ok (.aload_n 0, 1) := by decide +kernel
theorem dX4_add_10 : decode cX4_add 10 = .ok (.getfield 9, 3) := by decide +kernel
theorem dX4_add_13 : decode cX4_add 13 = .ok (.aload_n 0, 1) := by decide +kernel
theorem dX4_add_14 : decode cX4_add 14 = .ok (.getfield 22, 3) := by decide +kernel
theorem dX4_add_17 : decode cX4_add 17 = .ok (.iload_n 1, 1) := by decide +kernel
theorem dX4_add_18 : decode cX4_add 18 = .ok (.invokestatic 31, 3) := by decide +kernel
theorem dX4_add_21 : decode cX4_add 21 = .ok (.aload_n 0, 1) := by decide +kernel
theorem dX4_add_22 : decode cX4_add 22 = .ok (.getfield 15, 3) := by decide +kernel
theorem dX4_add_25 : decode cX4_add 25 = .ok (.aload_n 0, 1) := by decide +kernel
theorem dX4_add_26 : decode cX4_add 26 = .ok (.getfield 22, 3) := by decide +kernel
theorem dX4_add_29 : decode cX4_add 29 = .ok (.iload_n 2, 1) := by decide +kernel
theorem dX4_add_30 : decode cX4_add 30 = .ok (.invokestatic 31, 3) := by decide +kernel
theorem dX4_add_33 : decode cX4_add 33 = .ok (.aload_n 0, 1) := by decide +kernel
theorem dX4_add_34 : decode cX4_add 34 = .ok (.dup, 1) := by decide +kernel
theorem dX4_add_35 : decode cX4_add 35 = .ok (.getfield 22, 3) := by decide +kernel
theorem dX4_add_38 : decode cX4_add 38 = .ok (.iconst 1, 1) := by decide +kernel
theorem dX4_add_39 : decode cX4_add 39 = .ok (.iadd, 1) := by decide +kernel
theorem dX4_add_40 : decode cX4_add 40 = .ok (.putfield 22, 3) := by decide +kernel
theorem dX4_add_43 : decode cX4_add 43 = .ok (.return_, 1) := by decide +kernel
theorem dX4_tell_0 : decode cX4_tell 0 = .ok (.iload_n 1, 1) := by decide +kernel
theorem dX4_tell_1 : decode cX4_tell 1 = .ok (.ifCond .ne 8, 3) := by decide +kernel
theorem dX4_tell_4 : decode cX4_tell 4 = .ok (.aload_n 0, 1) := by decide +kernel
theorem dX4_tell_5 : decode cX4_tell 5 = .ok (.getfield 18, 3) := by decide +kernel
theorem dX4_tell_8 : decode cX4_tell 8 = .ok (.ireturn, 1) := by decide +kernel
theorem dX4_tell_9 : decode cX4_tell 9 = .ok (.iload_n 1, 1) := by decide +kernel
theorem dX4_tell_10 : decode cX4_tell 10 = .ok (.iconst 1, 1) := by decide +kernel
theorem dX4_tell_11 : decode cX4_tell 11 = .ok (.if_icmp .ne 8, 3) := by decide +kernel
theorem dX4_tell_14 : decode cX4_tell 14 = .ok (.aload_n 0, 1) := by decide +kernel
theorem dX4_tell_15 : decode cX4_tell 15 = .ok (.getfield 22, 3) := by decide +kernel
theorem dX4_tell_18 : decode cX4_tell 18 = .ok (.ireturn, 1) := by decide +kernel
theorem dX4_tell_19 : decode cX4_tell 19 = .ok (.iload_n 1, 1) := by decide +kernel
theorem dX4_tell_20 : decode cX4_tell 20 = .ok (.bipush 10, 2) := by decide +kernel
theorem dX4_tell_22 : decode cX4_tell 22 = .ok (.if_icmp .lt 36, 3) := by decide +kernel
theorem dX4_tell_25 : decode cX4_tell 25 = .ok (.iload_n 1, 1) := by decide +kernel
theorem dX4_tell_26 : decode cX4_tell 26 = .ok (.bipush 20, 2) := by decide +kernel
theorem dX4_tell_28 : decode cX4_tell 28 = .ok (.if_icmp .ge 30, 3) := by decide +kernel
theorem dX4_tell_31 : decode cX4_tell 31 = .ok (.iload_n 1, 1) := by decide +kernel
theorem dX4_tell_32 : decode cX4_tell 32 = .ok (.bipush 10, 2) := by decide +kernel
theorem dX4_tell_34 : decode cX4_tell 34 = .ok (.isub, 1) := by decide +kernel
theorem dX4_tell_35 : decode cX4_tell 35 = .ok (.aload_n 0, 1) := by decide +kernel
theorem dX4_tell_36 : decode cX4_tell 36 = .ok (.getfield 22, 3) := by decide +kernel
theorem dX4_tell_39 : decode cX4_tell 39 = .ok (.if_icmp .ge 17, 3) := by decide +kernel
theorem dX4_tell_42 : decode cX4_tell 42 = .ok (.aload_n 0, 1) := by decide +kernel
theorem dX4_tell_43 : decode cX4_tell 43 = .ok (.getfield 9, 3) := by decide +kernel
theorem dX4_tell_46 : decode cX4_tell 46 = .ok (.iload_n 1, 1) := by decide +kernel
theorem dX4_tell_47 : decode cX4_tell 47 = .ok (.bipush 10, 2) := by decide +kernel
theorem dX4_tell_49 : decode cX4_tell 49 = .ok (.isub, 1) := by decide +kernel
theorem dX4_tell_50 : decode cX4_tell 50 = .ok (.invokestatic 37, 3) := by decide +kernel
theorem dX4_tell_53 : decode cX4_tell 53 = .ok (.goto 4, 3) := by decide +kernel
theorem dX4_tell_56 : decode cX4_tell 56 = .ok (.iconst (-1), 1) := by decide +kernel
theorem dX4_tell_57 : decode cX4_tell 57 = .ok (.ireturn, 1) := by decide +kernel
theorem dX4_tell_58 : decode cX4_tell 58 = .ok (.iload_n 1, 1) := by decide +kernel
theorem dX4_tell_59 : decode cX4_tell 59 = .ok (.bipush 20, 2) := by decide +kernel
theorem dX4_tell_61 : decode cX4_tell 61 = .ok (.if_icmp .lt 28, 3) := by decide +kernel
theorem dX4_tell_64 : decode cX4_tell 64 = .ok (.iload_n 1, 1) := by decide +kernel
theorem dX4_tell_65 : decode cX4_tell 65 = .ok (.bipush 20, 2) := by decide +kernel
theorem dX4_tell_67 : decode cX4_tell 67 = .ok (.isub, 1) := by decide +kernel
theorem dX4_tell_68 : decode cX4_tell 68 = .ok (.aload_n 0, 1) := by decide +kernel
theorem dX4_tell_69 : decode cX4_tell 69 = .ok (.getfield 22, 3) := by decide +kernel
theorem dX4_tell_72 : decode cX4_tell 72 = .ok (.if_icmp .ge 17, 3) := by decide +kernel
theorem dX4_tell_75 : decode cX4_tell 75 = .ok (.aload_n 0, 1) := by decide +kernel
theorem dX4_tell_76 : decode cX4_tell 76 = .ok (.getfield 15, 3) := by decide +kernel
theorem dX4_tell_79 : decode cX4_tell 79 = .ok (.iload_n 1, 1) := by decide +kernel
theorem dX4_tell_80 : decode cX4_tell 80 = .ok (.bipush 20, 2) := by decide +kernel
theorem dX4_tell_82 : decode cX4_tell 82 = .ok (.isub, 1) := by decide +kernel
theorem dX4_tell_83 : decode cX4_tell 83 = .ok (.invokestatic 37, 3) := by decide +kernel
theorem dX4_tell_86 : decode cX4_tell 86 = .ok (.goto 4, 3) := by decide +kernel
theorem dX4_tell_89 : decode cX4_tell 89 = .ok (.iconst (-1), 1) := by decide +kernel
theorem dX4_tell_90 : decode cX4_tell 90 = .ok (.ireturn, 1) := by decide +kernel
theorem dX4_isLie_0 : decode cX4_isLie 0 = .ok (.iload_n 2, 1) := by decide +kernel
theorem dX4_isLie_1 : decode cX4_isLie 1 = .ok (.aload_n 0, 1) := by decide +kernel
theorem dX4_isLie_2 : decode cX4_isLie 2 = .ok (.getfield 15, 3) := by decide +kernel
theorem dX4_isLie_5 : decode cX4_isLie 5 = .ok (.iload_n 1, 1) := by decide +kernel
theorem dX4_isLie_6 : decode cX4_isLie 6 = .ok (.invokestatic 37, 3) := by decide +kernel
theorem dX4_isLie_9 : decode cX4_isLie 9 = .ok (.iand, 1) := by decide +kernel
theorem dX4_isLie_10 : decode cX4_isLie 10 = .ok (.ifCond .eq 7, 3) := by decide +kernel
theorem dX4_isLie_13 : decode cX4_isLie 13 = .ok (.iconst 1, 1) := by decide +kernel
theorem dX4_isLie_14 : decode cX4_isLie 14 = .ok (.goto 4, 3) := by decide +kernel
theorem dX4_isLie_17 : decode cX4_isLie 17 = .ok (.iconst 0, 1) := by decide +kernel
theorem dX4_isLie_18 : decode cX4_isLie 18 = .ok (.istore_n 3, 1) := by decide +kernel
theorem dX4_isLie_19 : decode cX4_isLie 19 = .ok (.iload_n 3, 1) := by decide +kernel
theorem dX4_isLie_20 : decode cX4_isLie 20 = .ok (.aload_n 0, 1) := by decide +kernel
theorem dX4_isLie_21 : decode cX4_isLie 21 = .ok (.getfield 9, 3) := by decide +kernel
theorem dX4_isLie_24 : decode cX4_isLie 24 = .ok (.iload_n 1, 1) := by decide +kernel
theorem dX4_isLie_25 : decode cX4_isLie 25 = .ok (.invokestatic 37, 3) := by decide +kernel
theorem dX4_isLie_28 : decode cX4_isLie 28 = .ok (.if_icmp .eq 7, 3) := by decide +kernel
theorem dX4_isLie_31 : decode cX4_isLie 31 = .ok (.iconst 1, 1) := by decide +kernel
theorem dX4_isLie_32 : decode cX4_isLie 32 = .ok (.goto 4, 3) := by decide +kernel
theorem dX4_isLie_35 : decode cX4_isLie 35 = .ok (.iconst 0, 1) := by decide +kernel
theorem dX4_isLie_36 : decode cX4_isLie 36 = .ok (.ireturn, 1) := by decide +kernel
theorem dX4_liesBy_0 : decode cX4_liesBy 0 = .ok (.iconst 0, 1) := by decide +kernel
theorem dX4_liesBy_1 : decode cX4_liesBy 1 = .ok (.istore_n 2, 1) := by decide +kernel
theorem dX4_liesBy_2 : decode cX4_liesBy 2 = .ok (.iconst 0, 1) := by decide +kernel
theorem dX4_liesBy_3 : decode cX4_liesBy 3 = .ok (.istore_n 3, 1) := by decide +kernel
theorem dX4_liesBy_4 : decode cX4_liesBy 4 = .ok (.iload_n 3, 1) := by decide +kernel
theorem dX4_liesBy_5 : decode cX4_liesBy 5 = .ok (.aload_n 0, 1) := by decide +kernel
theorem dX4_liesBy_6 : decode cX4_liesBy 6 = .ok (.getfield 22, 3) := by decide +kernel
theorem dX4_liesBy_9 : decode cX4_liesBy 9 = .ok (.if_icmp .ge 21, 3) := by decide +kernel
theorem dX4_liesBy_12 : decode cX4_liesBy 12 = .ok (.aload_n 0, 1) := by decide +kernel
theorem dX4_liesBy_13 : decode cX4_liesBy 13 = .ok (.iload_n 3, 1) := by decide +kernel
theorem dX4_liesBy_14 : decode cX4_liesBy 14 = .ok (.iload_n 1, 1) := by decide +kernel
theorem dX4_liesBy_15 : decode cX4_liesBy 15 = .ok (.invokevirtual 41, 3) := by decide +kernel
theorem dX4_liesBy_18 : decode cX4_liesBy 18 = .ok (.ifCond .eq 6, 3) := by decide +kernel
theorem dX4_liesBy_21 : decode cX4_liesBy 21 = .ok (.iinc 2 1, 3) := by decide +kernel
theorem dX4_liesBy_24 : decode cX4_liesBy 24 = .ok (.iinc 3 1, 3) := by decide +kernel
theorem dX4_liesBy_27 : decode cX4_liesBy 27 = .ok (.goto (-23), 3) := by decide +kernel
theorem dX4_liesBy_30 : decode cX4_liesBy 30 = .ok (.iload_n 2, 1) := by decide +kernel
theorem dX4_liesBy_31 : decode cX4_liesBy 31 = .ok (.ireturn, 1) := by decide +kernel
theorem dX4_fitting_0 : decode cX4_fitting 0 = .ok (.lconst 0, 1) := by decide +kernel
theorem dX4_fitting_1 : decode cX4_fitting 1 = .ok (.lstore_n 1, 1) := by decide +kernel
theorem dX4_fitting_2 : decode cX4_fitting 2 = .ok (.iconst 0, 1) := by decide +kernel
theorem dX4_fitting_3 : decode cX4_fitting 3 = .ok (.istore_n 3, 1) := by decide +kernel
theorem dX4_fitting_4 : decode cX4_fitting 4 = .ok (.iload_n 3, 1) := by decide +kernel
theorem dX4_fitting_5 : decode cX4_fitting 5 = .ok (.bipush 64, 2) := by decide +kernel
theorem dX4_fitting_7 : decode cX4_fitting 7 = .ok (.if_icmp .ge 27, 3) := by decide +kernel
theorem dX4_fitting_10 : decode cX4_fitting 10 = .ok (.aload_n 0, 1) := by decide +kernel
theorem dX4_fitting_11 : decode cX4_fitting 11 = .ok (.iload_n 3, 1) := by decide +kernel
theorem dX4_fitting_12 : decode cX4_fitting 12 = .ok (.invokevirtual 45, 3) := by decide +kernel
theorem dX4_fitting_15 : decode cX4_fitting 15 = .ok (.aload_n 0, 1) := by decide +kernel
theorem dX4_fitting_16 : decode cX4_fitting 16 = .ok (.getfield 18, 3) := by decide +kernel
theorem dX4_fitting_19 : decode cX4_fitting 19 = .ok (.if_icmp .gt 9, 3) := by decide +kernel
theorem dX4_fitting_22 : decode cX4_fitting 22 = .ok (.lload_n 1, 1) := by decide +kernel
theorem dX4_fitting_23 : decode cX4_fitting 23 = .ok (.lconst 1, 1) := by decide +kernel
theorem dX4_fitting_24 : decode cX4_fitting 24 = .ok (.iload_n 3, 1) := by decide +kernel
theorem dX4_fitting_25 : decode cX4_fitting 25 = .ok (.lshl, 1) := by decide +kernel
theorem dX4_fitting_26 : decode cX4_fitting 26 = .ok (.lor, 1) := by decide +kernel
theorem dX4_fitting_27 : decode cX4_fitting 27 = .ok (.lstore_n 1, 1) := by decide +kernel
theorem dX4_fitting_28 : decode cX4_fitting 28 = .ok (.iinc 3 1, 3) := by decide +kernel
theorem dX4_fitting_31 : decode cX4_fitting 31 = .ok (.goto (-27), 3) := by decide +kernel
theorem dX4_fitting_34 : decode cX4_fitting 34 = .ok (.lload_n 1, 1) := by decide +kernel
theorem dX4_fitting_35 : decode cX4_fitting 35 = .ok (.lreturn, 1) := by decide +kernel
theorem dX4_fewestLies_0 : decode cX4_fewestLies 0 = .ok (.bipush 8, 2) := by decide +kernel
theorem dX4_fewestLies_2 : decode cX4_fewestLies 2 = .ok (.istore_n 1, 1) := by decide +kernel
theorem dX4_fewestLies_3 : decode cX4_fewestLies 3 = .ok (.iconst 0, 1) := by decide +kernel
theorem dX4_fewestLies_4 : decode cX4_fewestLies 4 = .ok (.istore_n 2, 1) := by decide +kernel
theorem dX4_fewestLies_5 : decode cX4_fewestLies 5 = .ok (.iload_n 2, 1) := by decide +kernel
theorem dX4_fewestLies_6 : decode cX4_fewestLies 6 = .ok (.bipush 64, 2) := by decide +kernel
theorem dX4_fewestLies_8 : decode cX4_fewestLies 8 = .ok (.if_icmp .ge 19, 3) := by decide +kernel
theorem dX4_fewestLies_11 : decode cX4_fewestLies 11 = .ok (.iload_n 1, 1) := by decide +kernel
theorem dX4_fewestLies_12 : decode cX4_fewestLies 12 = .ok (.aload_n 0, 1) := by decide +kernel
theorem dX4_fewestLies_13 : decode cX4_fewestLies 13 = .ok (.iload_n 2, 1) := by decide +kernel
theorem dX4_fewestLies_14 : decode cX4_fewestLies 14 = .ok (.invokevirtual 45, 3) := by decide +kernel
theorem dX4_fewestLies_17 : decode cX4_fewestLies 17 = .ok (.invokestatic 49, 3) := by decide +kernel
theorem dX4_fewestLies_20 : decode cX4_fewestLies 20 = .ok (.istore_n 1, 1) := by decide +kernel
theorem dX4_fewestLies_21 : decode cX4_fewestLies 21 = .ok (.iinc 2 1, 3) := by decide +kernel
theorem dX4_fewestLies_24 : decode cX4_fewestLies 24 = .ok (.goto (-19), 3) := by decide +kernel
theorem dX4_fewestLies_27 : decode cX4_fewestLies 27 = .ok (.iload_n 1, 1) := by decide +kernel
theorem dX4_fewestLies_28 : decode cX4_fewestLies 28 = .ok (.ireturn, 1) := by decide +kernel
theorem dX4_needless_0 : decode cX4_needless 0 = .ok (.iconst 1, 1) := by decide +kernel
theorem dX4_needless_1 : decode cX4_needless 1 = .ok (.aload_n 0, 1) := by decide +kernel
theorem dX4_needless_2 : decode cX4_needless 2 = .ok (.getfield 22, 3) := by decide +kernel
theorem dX4_needless_5 : decode cX4_needless 5 = .ok (.ishl, 1) := by decide +kernel
theorem dX4_needless_6 : decode cX4_needless 6 = .ok (.iconst 1, 1) := by decide +kernel
theorem dX4_needless_7 : decode cX4_needless 7 = .ok (.isub, 1) := by decide +kernel
theorem dX4_needless_8 : decode cX4_needless 8 = .ok (.istore_n 1, 1) := by decide +kernel
theorem dX4_needless_9 : decode cX4_needless 9 = .ok (.iconst 0, 1) := by decide +kernel
theorem dX4_needless_10 : decode cX4_needless 10 = .ok (.istore_n 2, 1) := by decide +kernel
theorem dX4_needless_11 : decode cX4_needless 11 = .ok (.iload_n 2, 1) := by decide +kernel
theorem dX4_needless_12 : decode cX4_needless 12 = .ok (.bipush 64, 2) := by decide +kernel
theorem dX4_needless_14 : decode cX4_needless 14 = .ok (.if_icmp .ge 33, 3) := by decide +kernel
theorem dX4_needless_17 : decode cX4_needless 17 = .ok (.aload_n 0, 1) := by decide +kernel
theorem dX4_needless_18 : decode cX4_needless 18 = .ok (.iload_n 2, 1) := by decide +kernel
theorem dX4_needless_19 : decode cX4_needless 19 = .ok (.invokevirtual 45, 3) := by decide +kernel
theorem dX4_needless_22 : decode cX4_needless 22 = .ok (.aload_n 0, 1) := by decide +kernel
theorem dX4_needless_23 : decode cX4_needless 23 = .ok (.getfield 18, 3) := by decide +kernel
theorem dX4_needless_26 : decode cX4_needless 26 = .ok (.iconst 1, 1) := by decide +kernel
theorem dX4_needless_27 : decode cX4_needless 27 = .ok (.iadd, 1) := by decide +kernel
theorem dX4_needless_28 : decode cX4_needless 28 = .ok (.if_icmp .ne 13, 3) := by decide +kernel
theorem dX4_needless_31 : decode cX4_needless 31 = .ok (.iload_n 1, 1) := by decide +kernel
theorem dX4_needless_32 : decode cX4_needless 32 = .ok (.aload_n 0, 1) := by decide +kernel
theorem dX4_needless_33 : decode cX4_needless 33 = .ok (.iload_n 2, 1) := by decide +kernel
theorem dX4_needless_34 : decode cX4_needless 34 = .ok (.invokevirtual 55, 3) := by decide +kernel
theorem dX4_needless_37 : decode cX4_needless 37 = .ok (.iconst (-1), 1) := by decide +kernel
theorem dX4_needless_38 : decode cX4_needless 38 = .ok (.ixor, 1) := by decide +kernel
theorem dX4_needless_39 : decode cX4_needless 39 = .ok (.iand, 1) := by decide +kernel
theorem dX4_needless_40 : decode cX4_needless 40 = .ok (.istore_n 1, 1) := by decide +kernel
theorem dX4_needless_41 : decode cX4_needless 41 = .ok (.iinc 2 1, 3) := by decide +kernel
theorem dX4_needless_44 : decode cX4_needless 44 = .ok (.goto (-33), 3) := by decide +kernel
theorem dX4_needless_47 : decode cX4_needless 47 = .ok (.iload_n 1, 1) := by decide +kernel
theorem dX4_needless_48 : decode cX4_needless 48 = .ok (.ireturn, 1) := by decide +kernel
theorem dX4_liesBits_0 : decode cX4_liesBits 0 = .ok (.iconst 0, 1) := by decide +kernel
theorem dX4_liesBits_1 : decode cX4_liesBits 1 = .ok (.istore_n 2, 1) := by decide +kernel
theorem dX4_liesBits_2 : decode cX4_liesBits 2 = .ok (.iconst 0, 1) := by decide +kernel
theorem dX4_liesBits_3 : decode cX4_liesBits 3 = .ok (.istore_n 3, 1) := by decide +kernel
theorem dX4_liesBits_4 : decode cX4_liesBits 4 = .ok (.iload_n 3, 1) := by decide +kernel
theorem dX4_liesBits_5 : decode cX4_liesBits 5 = .ok (.aload_n 0, 1) := by decide +kernel
theorem dX4_liesBits_6 : decode cX4_liesBits 6 = .ok (.getfield 22, 3) := by decide +kernel
theorem dX4_liesBits_9 : decode cX4_liesBits 9 = .ok (.if_icmp .ge 24, 3) := by decide +kernel
theorem dX4_liesBits_12 : decode cX4_liesBits 12 = .ok (.aload_n 0, 1) := by decide +kernel
theorem dX4_liesBits_13 : decode cX4_liesBits 13 = .ok (.iload_n 3, 1) := by decide +kernel
theorem dX4_liesBits_14 : decode cX4_liesBits 14 = .ok (.iload_n 1, 1) := by decide +kernel
theorem dX4_liesBits_15 : decode cX4_liesBits 15 = .ok (.invokevirtual 41, 3) := by decide +kernel
theorem dX4_liesBits_18 : decode cX4_liesBits 18 = .ok (.ifCond .eq 9, 3) := by decide +kernel
theorem dX4_liesBits_21 : decode cX4_liesBits 21 = .ok (.iload_n 2, 1) := by decide +kernel
theorem dX4_liesBits_22 : decode cX4_liesBits 22 = .ok (.iconst 1, 1) := by decide +kernel
theorem dX4_liesBits_23 : decode cX4_liesBits 23 = .ok (.iload_n 3, 1) := by decide +kernel
theorem dX4_liesBits_24 : decode cX4_liesBits 24 = .ok (.ishl, 1) := by decide +kernel
theorem dX4_liesBits_25 : decode cX4_liesBits 25 = .ok (.ior, 1) := by decide +kernel
theorem dX4_liesBits_26 : decode cX4_liesBits 26 = .ok (.istore_n 2, 1) := by decide +kernel
theorem dX4_liesBits_27 : decode cX4_liesBits 27 = .ok (.iinc 3 1, 3) := by decide +kernel
theorem dX4_liesBits_30 : decode cX4_liesBits 30 = .ok (.goto (-26), 3) := by decide +kernel
theorem dX4_liesBits_33 : decode cX4_liesBits 33 = .ok (.iload_n 2, 1) := by decide +kernel
theorem dX4_liesBits_34 : decode cX4_liesBits 34 = .ok (.ireturn, 1) := by decide +kernel
theorem dX4_isIn_0 : decode cX4_isIn 0 = .ok (.lload_n 0, 1) := by decide +kernel
theorem dX4_isIn_1 : decode cX4_isIn 1 = .ok (.iload_n 2, 1) := by decide +kernel
theorem dX4_isIn_2 : decode cX4_isIn 2 = .ok (.lushr, 1) := by decide +kernel
theorem dX4_isIn_3 : decode cX4_isIn 3 = .ok (.lconst 1, 1) := by decide +kernel
theorem dX4_isIn_4 : decode cX4_isIn 4 = .ok (.land, 1) := by decide +kernel
theorem dX4_isIn_5 : decode cX4_isIn 5 = .ok (.lconst 0, 1) := by decide +kernel
theorem dX4_isIn_6 : decode cX4_isIn 6 = .ok (.lcmp, 1) := by decide +kernel
theorem dX4_isIn_7 : decode cX4_isIn 7 = .ok (.ifCond .eq 7, 3) := by decide +kernel
theorem dX4_isIn_10 : decode cX4_isIn 10 = .ok (.iconst 1, 1) := by decide +kernel
theorem dX4_isIn_11 : decode cX4_isIn 11 = .ok (.goto 4, 3) := by decide +kernel
theorem dX4_isIn_14 : decode cX4_isIn 14 = .ok (.iconst 0, 1) := by decide +kernel
theorem dX4_isIn_15 : decode cX4_isIn 15 = .ok (.ireturn, 1) := by decide +kernel
theorem dX4_stopping_0 : decode cX4_stopping 0 = .ok (.iconst 0, 1) := by decide +kernel
theorem dX4_stopping_1 : decode cX4_stopping 1 = .ok (.istore_n 3, 1) := by decide +kernel
theorem dX4_stopping_2 : decode cX4_stopping 2 = .ok (.iconst 0, 1) := by decide +kernel
theorem dX4_stopping_3 : decode cX4_stopping 3 = .ok (.istore 4, 2) := by decide +kernel
theorem dX4_stopping_5 : decode cX4_stopping 5 = .ok (.iload 4, 2) := by decide +kernel
theorem dX4_stopping_7 : decode cX4_stopping 7 = .ok (.bipush 64, 2) := by decide +kernel
theorem dX4_stopping_9 : decode cX4_stopping 9 = .ok (.if_icmp .ge 28, 3) := by decide +kernel
theorem dX4_stopping_12 : decode cX4_stopping 12 = .ok (.lload_n 0, 1) := by decide +kernel
theorem dX4_stopping_13 : decode cX4_stopping 13 = .ok (.iload 4, 2) := by decide +kernel
theorem dX4_stopping_15 : decode cX4_stopping 15 = .ok (.invokestatic 58, 3) := by decide +kernel
theorem dX4_stopping_18 : decode cX4_stopping 18 = .ok (.ifCond .eq 13, 3) := by decide +kernel
theorem dX4_stopping_21 : decode cX4_stopping 21 = .ok (.iload 4, 2) := by decide +kernel
theorem dX4_stopping_23 : decode cX4_stopping 23 = .ok (.iload_n 2, 1) := by decide +kernel
theorem dX4_stopping_24 : decode cX4_stopping 24 = .ok (.iand, 1) := by decide +kernel
theorem dX4_stopping_25 : decode cX4_stopping 25 = .ok (.ifCond .eq 6, 3) := by decide +kernel
theorem dX4_stopping_28 : decode cX4_stopping 28 = .ok (.iinc 3 1, 3) := by decide +kernel
theorem dX4_stopping_31 : decode cX4_stopping 31 = .ok (.iinc 4 1, 3) := by decide +kernel
theorem dX4_stopping_34 : decode cX4_stopping 34 = .ok (.goto (-29), 3) := by decide +kernel
theorem dX4_stopping_37 : decode cX4_stopping 37 = .ok (.iload_n 3, 1) := by decide +kernel
theorem dX4_stopping_38 : decode cX4_stopping 38 = .ok (.ireturn, 1) := by decide +kernel
theorem dX4_bestQuestion_0 : decode cX4_bestQuestion 0 = .ok (.lload_n 0, 1) := by decide +kernel
theorem dX4_bestQuestion_1 : decode cX4_bestQuestion 1 = .ok (.lconst 0, 1) := by decide +kernel
theorem dX4_bestQuestion_2 : decode cX4_bestQuestion 2 = .ok (.lcmp, 1) := by decide +kernel
theorem dX4_bestQuestion_3 : decode cX4_bestQuestion 3 = .ok (.ifCond .ne 5, 3) := by decide +kernel
theorem dX4_bestQuestion_6 : decode cX4_bestQuestion 6 = .ok (.iconst (-1), 1) := by decide +kernel
theorem dX4_bestQuestion_7 : decode cX4_bestQuestion 7 = .ok (.ireturn, 1) := by decide +kernel
theorem dX4_bestQuestion_8 : decode cX4_bestQuestion 8 = .ok (.lload_n 0, 1) := by decide +kernel
theorem dX4_bestQuestion_9 : decode cX4_bestQuestion 9 = .ok (.invokestatic 62, 3) := by decide +kernel
theorem dX4_bestQuestion_12 : decode cX4_bestQuestion 12 = .ok (.istore_n 2, 1) := by decide +kernel
theorem dX4_bestQuestion_13 : decode cX4_bestQuestion 13 = .ok (.iconst (-1), 1) := by decide +kernel
theorem dX4_bestQuestion_14 : decode cX4_bestQuestion 14 = .ok (.istore_n 3, 1) := by decide +kernel
theorem dX4_bestQuestion_15 : decode cX4_bestQuestion 15 = .ok (.bipush 65, 2) := by decide +kernel
theorem dX4_bestQuestion_17 : decode cX4_bestQuestion 17 = .ok (.istore 4, 2) := by decide +kernel
theorem dX4_bestQuestion_19 : decode cX4_bestQuestion 19 = .ok (.iconst 1, 1) := by decide +kernel
theorem dX4_bestQuestion_20 : decode cX4_bestQuestion 20 = .ok (.istore 5, 2) := by decide +kernel
theorem dX4_bestQuestion_22 : decode cX4_bestQuestion 22 = .ok (.iload 5, 2) := by decide +kernel
theorem dX4_bestQuestion_24 : decode cX4_bestQuestion 24 = .ok (.bipush 64, 2) := by decide +kernel
theorem dX4_bestQuestion_26 : decode cX4_bestQuestion 26 = .ok (.if_icmp .ge 42, 3) := by decide +kernel
theorem dX4_bestQuestion_29 : decode cX4_bestQuestion 29 = .ok (.lload_n 0, 1) := by decide +kernel
theorem dX4_bestQuestion_30 : decode cX4_bestQuestion 30 = .ok (.iload 5, 2) := by decide +kernel
theorem dX4_bestQuestion_32 : decode cX4_bestQuestion 32 = .ok (.invokestatic 68, 3) := by decide +kernel
theorem dX4_bestQuestion_35 : decode cX4_bestQuestion 35 = .ok (.istore 6, 2) := by decide +kernel
theorem dX4_bestQuestion_37 : decode cX4_bestQuestion 37 = .ok (.iload 6, 2) := by decide +kernel
theorem dX4_bestQuestion_39 : decode cX4_bestQuestion 39 = .ok (.iload_n 2, 1) := by decide +kernel
theorem dX4_bestQuestion_40 : decode cX4_bestQuestion 40 = .ok (.iload 6, 2) := by decide +kernel
theorem dX4_bestQuestion_42 : decode cX4_bestQuestion 42 = .ok (.isub, 1) := by decide +kernel
theorem dX4_bestQuestion_43 : decode cX4_bestQuestion 43 = .ok (.invokestatic 72, 3) := by decide +kernel
theorem dX4_bestQuestion_46 : decode cX4_bestQuestion 46 = .ok (.istore 7, 2) := by decide +kernel
theorem dX4_bestQuestion_48 : decode cX4_bestQuestion 48 = .ok (.iload 7, 2) := by decide +kernel
theorem dX4_bestQuestion_50 : decode cX4_bestQuestion 50 = .ok (.iload 4, 2) := by decide +kernel
theorem dX4_bestQuestion_52 : decode cX4_bestQuestion 52 = .ok (.if_icmp .ge 10, 3) := by decide +kernel
theorem dX4_bestQuestion_55 : decode cX4_bestQuestion 55 = .ok (.iload 7, 2) := by decide +kernel
theorem dX4_bestQuestion_57 : decode cX4_bestQuestion 57 = .ok (.istore 4, 2) := by decide +kernel
theorem dX4_bestQuestion_59 : decode cX4_bestQuestion 59 = .ok (.iload 5, 2) := by decide +kernel
theorem dX4_bestQuestion_61 : decode cX4_bestQuestion 61 = .ok (.istore_n 3, 1) := by decide +kernel
theorem dX4_bestQuestion_62 : decode cX4_bestQuestion 62 = .ok (.iinc 5 1, 3) := by decide +kernel
theorem dX4_bestQuestion_65 : decode cX4_bestQuestion 65 = .ok (.goto (-43), 3) := by decide +kernel
theorem dX4_bestQuestion_68 : decode cX4_bestQuestion 68 = .ok (.iload_n 3, 1) := by decide +kernel
theorem dX4_bestQuestion_69 : decode cX4_bestQuestion 69 = .ok (.ireturn, 1) := by decide +kernel
theorem dX4_sure_0 : decode cX4_sure 0 = .ok (.lload_n 0, 1) := by decide +kernel
theorem dX4_sure_1 : decode cX4_sure 1 = .ok (.lconst 0, 1) := by decide +kernel
theorem dX4_sure_2 : decode cX4_sure 2 = .ok (.lcmp, 1) := by decide +kernel
theorem dX4_sure_3 : decode cX4_sure 3 = .ok (.ifCond .ne 5, 3) := by decide +kernel
theorem dX4_sure_6 : decode cX4_sure 6 = .ok (.iconst (-1), 1) := by decide +kernel
theorem dX4_sure_7 : decode cX4_sure 7 = .ok (.ireturn, 1) := by decide +kernel
theorem dX4_sure_8 : decode cX4_sure 8 = .ok (.lload_n 0, 1) := by decide +kernel
theorem dX4_sure_9 : decode cX4_sure 9 = .ok (.iconst 1, 1) := by decide +kernel
theorem dX4_sure_10 : decode cX4_sure 10 = .ok (.iload_n 2, 1) := by decide +kernel
theorem dX4_sure_11 : decode cX4_sure 11 = .ok (.ishl, 1) := by decide +kernel
theorem dX4_sure_12 : decode cX4_sure 12 = .ok (.invokestatic 68, 3) := by decide +kernel
theorem dX4_sure_15 : decode cX4_sure 15 = .ok (.istore_n 3, 1) := by decide +kernel
theorem dX4_sure_16 : decode cX4_sure 16 = .ok (.iload_n 3, 1) := by decide +kernel
theorem dX4_sure_17 : decode cX4_sure 17 = .ok (.lload_n 0, 1) := by decide +kernel
theorem dX4_sure_18 : decode cX4_sure 18 = .ok (.invokestatic 62, 3) := by decide +kernel
theorem dX4_sure_21 : decode cX4_sure 21 = .ok (.if_icmp .ne 5, 3) := by decide +kernel
theorem dX4_sure_24 : decode cX4_sure 24 = .ok (.iconst 1, 1) := by decide +kernel
theorem dX4_sure_25 : decode cX4_sure 25 = .ok (.ireturn, 1) := by decide +kernel
theorem dX4_sure_26 : decode cX4_sure 26 = .ok (.iload_n 3, 1) := by decide +kernel
theorem dX4_sure_27 : decode cX4_sure 27 = .ok (.ifCond .ne 7, 3) := by decide +kernel
theorem dX4_sure_30 : decode cX4_sure 30 = .ok (.iconst 0, 1) := by decide +kernel
theorem dX4_sure_31 : decode cX4_sure 31 = .ok (.goto 4, 3) := by decide +kernel
theorem dX4_sure_34 : decode cX4_sure 34 = .ok (.iconst (-1), 1) := by decide +kernel
theorem dX4_sure_35 : decode cX4_sure 35 = .ok (.ireturn, 1) := by decide +kernel
theorem dX4_heartAt_0 : decode cX4_heartAt 0 = .ok (.iload_n 2, 1) := by decide +kernel
theorem dX4_heartAt_1 : decode cX4_heartAt 1 = .ok (.istore_n 3, 1) := by decide +kernel
theorem dX4_heartAt_2 : decode cX4_heartAt 2 = .ok (.iconst 0, 1) := by decide +kernel
theorem dX4_heartAt_3 : decode cX4_heartAt 3 = .ok (.istore 4, 2) := by decide +kernel
theorem dX4_heartAt_5 : decode cX4_heartAt 5 = .ok (.iload 4, 2) := by decide +kernel
theorem dX4_heartAt_7 : decode cX4_heartAt 7 = .ok (.bipush 64, 2) := by decide +kernel
theorem dX4_heartAt_9 : decode cX4_heartAt 9 = .ok (.if_icmp .ge 28, 3) := by decide +kernel
theorem dX4_heartAt_12 : decode cX4_heartAt 12 = .ok (.lload_n 0, 1) := by decide +kernel
theorem dX4_heartAt_13 : decode cX4_heartAt 13 = .ok (.iload 4, 2) := by decide +kernel
theorem dX4_heartAt_15 : decode cX4_heartAt 15 = .ok (.invokestatic 58, 3) := by decide +kernel
theorem dX4_heartAt_18 : decode cX4_heartAt 18 = .ok (.ifCond .eq 13, 3) := by decide +kernel
theorem dX4_heartAt_21 : decode cX4_heartAt 21 = .ok (.iload_n 3, 1) := by decide +kernel
theorem dX4_heartAt_22 : decode cX4_heartAt 22 = .ok (.ifCond .ne 6, 3) := by decide +kernel
theorem dX4_heartAt_25 : decode cX4_heartAt 25 = .ok (.iload 4, 2) := by decide +kernel
theorem dX4_heartAt_27 : decode cX4_heartAt 27 = .ok (.ireturn, 1) := by decide +kernel
theorem dX4_heartAt_28 : decode cX4_heartAt 28 = .ok (.iinc 3 (-1), 3) := by decide +kernel
theorem dX4_heartAt_31 : decode cX4_heartAt 31 = .ok (.iinc 4 1, 3) := by decide +kernel
theorem dX4_heartAt_34 : decode cX4_heartAt 34 = .ok (.goto (-29), 3) := by decide +kernel
theorem dX4_heartAt_37 : decode cX4_heartAt 37 = .ok (.bipush (-2), 2) := by decide +kernel
theorem dX4_heartAt_39 : decode cX4_heartAt 39 = .ok (.ireturn, 1) := by decide +kernel
theorem dX4_smallest_0 : decode cX4_smallest 0 = .ok (.bipush 6, 2) := by decide +kernel
theorem dX4_smallest_2 : decode cX4_smallest 2 = .ok (.istore_n 2, 1) := by decide +kernel
theorem dX4_smallest_3 : decode cX4_smallest 3 = .ok (.iconst 0, 1) := by decide +kernel
theorem dX4_smallest_4 : decode cX4_smallest 4 = .ok (.istore_n 3, 1) := by decide +kernel
theorem dX4_smallest_5 : decode cX4_smallest 5 = .ok (.iload_n 3, 1) := by decide +kernel
theorem dX4_smallest_6 : decode cX4_smallest 6 = .ok (.bipush 64, 2) := by decide +kernel
theorem dX4_smallest_8 : decode cX4_smallest 8 = .ok (.if_icmp .ge 26, 3) := by decide +kernel
theorem dX4_smallest_11 : decode cX4_smallest 11 = .ok (.lload_n 0, 1) := by decide +kernel
theorem dX4_smallest_12 : decode cX4_smallest 12 = .ok (.iload_n 3, 1) := by decide +kernel
theorem dX4_smallest_13 : decode cX4_smallest 13 = .ok (.invokestatic 58, 3) := by decide +kernel
theorem dX4_smallest_16 : decode cX4_smallest 16 = .ok (.ifCond .eq 12, 3) := by decide +kernel
theorem dX4_smallest_19 : decode cX4_smallest 19 = .ok (.iload_n 2, 1) := by decide +kernel
theorem dX4_smallest_20 : decode cX4_smallest 20 = .ok (.iload_n 3, 1) := by decide +kernel
theorem dX4_smallest_21 : decode cX4_smallest 21 = .ok (.invokestatic 75, 3) := by decide +kernel
theorem dX4_smallest_24 : decode cX4_smallest 24 = .ok (.invokestatic 49, 3) := by decide +kernel
theorem dX4_smallest_27 : decode cX4_smallest 27 = .ok (.istore_n 2, 1) := by decide +kernel
theorem dX4_smallest_28 : decode cX4_smallest 28 = .ok (.iinc 3 1, 3) := by decide +kernel
theorem dX4_smallest_31 : decode cX4_smallest 31 = .ok (.goto (-26), 3) := by decide +kernel
theorem dX4_smallest_34 : decode cX4_smallest 34 = .ok (.lload_n 0, 1) := by decide +kernel
theorem dX4_smallest_35 : decode cX4_smallest 35 = .ok (.lconst 0, 1) := by decide +kernel
theorem dX4_smallest_36 : decode cX4_smallest 36 = .ok (.lcmp, 1) := by decide +kernel
theorem dX4_smallest_37 : decode cX4_smallest 37 = .ok (.ifCond .ne 7, 3) := by decide +kernel
theorem dX4_smallest_40 : decode cX4_smallest 40 = .ok (.iconst (-1), 1) := by decide +kernel
theorem dX4_smallest_41 : decode cX4_smallest 41 = .ok (.goto 4, 3) := by decide +kernel
theorem dX4_smallest_44 : decode cX4_smallest 44 = .ok (.iload_n 2, 1) := by decide +kernel
theorem dX4_smallest_45 : decode cX4_smallest 45 = .ok (.ireturn, 1) := by decide +kernel
theorem dX4_largest_0 : decode cX4_largest 0 = .ok (.iconst (-1), 1) := by decide +kernel
theorem dX4_largest_1 : decode cX4_largest 1 = .ok (.istore_n 2, 1) := by decide +kernel
theorem dX4_largest_2 : decode cX4_largest 2 = .ok (.iconst 0, 1) := by decide +kernel
theorem dX4_largest_3 : decode cX4_largest 3 = .ok (.istore_n 3, 1) := by decide +kernel
theorem dX4_largest_4 : decode cX4_largest 4 = .ok (.iload_n 3, 1) := by decide +kernel
theorem dX4_largest_5 : decode cX4_largest 5 = .ok (.bipush 64, 2) := by decide +kernel
theorem dX4_largest_7 : decode cX4_largest 7 = .ok (.if_icmp .ge 26, 3) := by decide +kernel
theorem dX4_largest_10 : decode cX4_largest 10 = .ok (.lload_n 0, 1) := by decide +kernel
theorem dX4_largest_11 : decode cX4_largest 11 = .ok (.iload_n 3, 1) := by decide +kernel
theorem dX4_largest_12 : decode cX4_largest 12 = .ok (.invokestatic 58, 3) := by decide +kernel
theorem dX4_largest_15 : decode cX4_largest 15 = .ok (.ifCond .eq 12, 3) := by decide +kernel
theorem dX4_largest_18 : decode cX4_largest 18 = .ok (.iload_n 2, 1) := by decide +kernel
theorem dX4_largest_19 : decode cX4_largest 19 = .ok (.iload_n 3, 1) := by decide +kernel
theorem dX4_largest_20 : decode cX4_largest 20 = .ok (.invokestatic 75, 3) := by decide +kernel
theorem dX4_largest_23 : decode cX4_largest 23 = .ok (.invokestatic 72, 3) := by decide +kernel
theorem dX4_largest_26 : decode cX4_largest 26 = .ok (.istore_n 2, 1) := by decide +kernel
theorem dX4_largest_27 : decode cX4_largest 27 = .ok (.iinc 3 1, 3) := by decide +kernel
theorem dX4_largest_30 : decode cX4_largest 30 = .ok (.goto (-26), 3) := by decide +kernel
theorem dX4_largest_33 : decode cX4_largest 33 = .ok (.iload_n 2, 1) := by decide +kernel
theorem dX4_largest_34 : decode cX4_largest 34 = .ok (.ireturn, 1) := by decide +kernel
theorem dX0_init_0 : decode cX0_init 0 = .ok (.aload_n 0, 1) := by decide +kernel
theorem dX0_init_1 : decode cX0_init 1 = .ok (.invokespecial 3, 3) := by decide +kernel
theorem dX0_init_4 : decode cX0_init 4 = .ok (.aload_n 0, 1) := by decide +kernel
theorem dX0_init_5 : decode cX0_init 5 = .ok (.bipush 8, 2) := by decide +kernel
theorem dX0_init_7 : decode cX0_init 7 = .ok (.newarray .int, 2) := by decide +kernel
theorem dX0_init_9 : decode cX0_init 9 = .ok (.putfield 9, 3) := by decide +kernel
theorem dX0_init_12 : decode cX0_init 12 = .ok (.return_, 1) := by decide +kernel
theorem dX0_listen_0 : decode cX0_listen 0 = .ok (.iconst 0, 1) := by decide +kernel
theorem dX0_listen_1 : decode cX0_listen 1 = .ok (.istore_n 2, 1) := by decide +kernel
theorem dX0_listen_2 : decode cX0_listen 2 = .ok (.iload_n 2, 1) := by decide +kernel
theorem dX0_listen_3 : decode cX0_listen 3 = .ok (.aload_n 1, 1) := by decide +kernel
theorem dX0_listen_4 : decode cX0_listen 4 = .ok (.getfield 15, 3) := by decide +kernel
theorem dX0_listen_7 : decode cX0_listen 7 = .ok (.if_icmp .ge 24, 3) := by decide +kernel
theorem dX0_listen_10 : decode cX0_listen 10 = .ok (.aload_n 0, 1) := by decide +kernel
theorem dX0_listen_11 : decode cX0_listen 11 = .ok (.getfield 9, 3) := by decide +kernel
theorem dX0_listen_14 : decode cX0_listen 14 = .ok (.iload_n 2, 1) := by decide +kernel
theorem dX0_listen_15 : decode cX0_listen 15 = .ok (.aload_n 1, 1) := by decide +kernel
theorem dX0_listen_16 : decode cX0_listen 16 = .ok (.iload_n 2, 1) := by decide +kernel
theorem dX0_listen_17 : decode cX0_listen 17 = .ok (.iconst 0, 1) := by decide +kernel
theorem dX0_listen_18 : decode cX0_listen 18 = .ok (.iconst 0, 1) := by decide +kernel
theorem dX0_listen_19 : decode cX0_listen 19 = .ok (.invokevirtual 21, 3) := by decide +kernel
theorem dX0_listen_22 : decode cX0_listen 22 = .ok (.invokestatic 25, 3) := by decide +kernel
theorem dX0_listen_25 : decode cX0_listen 25 = .ok (.iinc 2 1, 3) := by decide +kernel
theorem dX0_listen_28 : decode cX0_listen 28 = .ok (.goto (-26), 3) := by decide +kernel
theorem dX0_listen_31 : decode cX0_listen 31 = .ok (.return_, 1) := by decide +kernel
theorem dX0_heardFrom_0 : decode cX0_heardFrom 0 = .ok (.iconst 0, 1) := by decide +kernel
theorem dX0_heardFrom_1 : decode cX0_heardFrom 1 = .ok (.istore_n 3, 1) := by decide +kernel
theorem dX0_heardFrom_2 : decode cX0_heardFrom 2 = .ok (.iconst 0, 1) := by decide +kernel
theorem dX0_heardFrom_3 : decode cX0_heardFrom 3 = .ok (.istore 4, 2) := by decide +kernel
theorem dX0_heardFrom_5 : decode cX0_heardFrom 5 = .ok (.iload 4, 2) := by decide +kernel
theorem dX0_heardFrom_7 : decode cX0_heardFrom 7 = .ok (.aload_n 1, 1) := by decide +kernel
theorem dX0_heardFrom_8 : decode cX0_heardFrom 8 = .ok (.getfield 15, 3) := by decide +kernel
theorem dX0_heardFrom_11 : decode cX0_heardFrom 11 = .ok (.if_icmp .ge 38, 3) := by decide +kernel
theorem dX0_heardFrom_14 : decode cX0_heardFrom 14 = .ok (.aload_n 1, 1) := by decide +kernel
theorem dX0_heardFrom_15 : decode cX0_heardFrom 15 = .ok (.iload 4, 2) := by decide +kernel
theorem dX0_heardFrom_17 : decode cX0_heardFrom 17 = .ok (.iload_n 2, 1) := by decide +kernel
theorem dX0_heardFrom_18 : decode cX0_heardFrom 18 = .ok (.bipush 10, 2) := by decide +kernel
theorem dX0_heardFrom_20 : decode cX0_heardFrom 20 = .ok (.idiv, 1) := by decide +kernel
theorem dX0_heardFrom_21 : decode cX0_heardFrom 21 = .ok (.iload_n 2, 1) := by decide +kernel
theorem dX0_heardFrom_22 : decode cX0_heardFrom 22 = .ok (.bipush 10, 2) := by decide +kernel
theorem dX0_heardFrom_24 : decode cX0_heardFrom 24 = .ok (.irem, 1) := by decide +kernel
theorem dX0_heardFrom_25 : decode cX0_heardFrom 25 = .ok (.invokevirtual 31, 3) := by decide +kernel
theorem dX0_heardFrom_28 : decode cX0_heardFrom 28 = .ok (.aload_n 0, 1) := by decide +kernel
theorem dX0_heardFrom_29 : decode cX0_heardFrom 29 = .ok (.getfield 9, 3) := by decide +kernel
theorem dX0_heardFrom_32 : decode cX0_heardFrom 32 = .ok (.iload 4, 2) := by decide +kernel
theorem dX0_heardFrom_34 : decode cX0_heardFrom 34 = .ok (.invokestatic 34, 3) := by decide +kernel
theorem dX0_heardFrom_37 : decode cX0_heardFrom 37 = .ok (.if_icmp .gt 6, 3) := by decide +kernel
theorem dX0_heardFrom_40 : decode cX0_heardFrom 40 = .ok (.iinc 3 1, 3) := by decide +kernel
theorem dX0_heardFrom_43 : decode cX0_heardFrom 43 = .ok (.iinc 4 1, 3) := by decide +kernel
theorem dX0_heardFrom_46 : decode cX0_heardFrom 46 = .ok (.goto (-41), 3) := by decide +kernel
theorem dX0_heardFrom_49 : decode cX0_heardFrom 49 = .ok (.iload_n 3, 1) := by decide +kernel
theorem dX0_heardFrom_50 : decode cX0_heardFrom 50 = .ok (.ireturn, 1) := by decide +kernel
theorem dX0_offendersAt_0 : decode cX0_offendersAt 0 = .ok (.aload_n 0, 1) := by decide +kernel
theorem dX0_offendersAt_1 : decode cX0_offendersAt 1 = .ok (.aload_n 1, 1) := by decide +kernel
theorem dX0_offendersAt_2 : decode cX0_offendersAt 2 = .ok (.invokevirtual 38, 3) := by decide +kernel
theorem dX0_offendersAt_5 : decode cX0_offendersAt 5 = .ok (.aload_n 0, 1) := by decide +kernel
theorem dX0_offendersAt_6 : decode cX0_offendersAt 6 = .ok (.aload_n 1, 1) := by decide +kernel
theorem dX0_offendersAt_7 : decode cX0_offendersAt 7 = .ok (.iload_n 2, 1) := by decide +kernel
theorem dX0_offendersAt_8 : decode cX0_offendersAt 8 = .ok (.invokevirtual 42, 3) := by decide +kernel
theorem dX0_offendersAt_11 : decode cX0_offendersAt 11 = .ok (.ireturn, 1) := by decide +kernel
theorem dX0_quietPlaces_0 : decode cX0_quietPlaces 0 = .ok (.aload_n 0, 1) := by decide +kernel
theorem dX0_quietPlaces_1 : decode cX0_quietPlaces 1 = .ok (.aload_n 1, 1) := by decide +kernel
theorem dX0_quietPlaces_2 : decode cX0_quietPlaces 2 = .ok (.invokevirtual 38, 3) := by decide +kernel
theorem dX0_quietPlaces_5 : decode cX0_quietPlaces 5 = .ok (.iconst 0, 1) := by decide +kernel
theorem dX0_quietPlaces_6 : decode cX0_quietPlaces 6 = .ok (.istore_n 2, 1) := by decide +kernel
theorem dX0_quietPlaces_7 : decode cX0_quietPlaces 7 = .ok (.iconst 0, 1) := by decide +kernel
theorem dX0_quietPlaces_8 : decode cX0_quietPlaces 8 = .ok (.istore_n 3, 1) := by decide +kernel
theorem dX0_quietPlaces_9 : decode cX0_quietPlaces 9 = .ok (.iload_n 3, 1) := by decide +kernel
theorem dX0_quietPlaces_10 : decode cX0_quietPlaces 10 = .ok (.bipush 100, 2) := by decide +kernel
theorem dX0_quietPlaces_12 : decode cX0_quietPlaces 12 = .ok (.if_icmp .ge 21, 3) := by decide +kernel
theorem dX0_quietPlaces_15 : decode cX0_quietPlaces 15 = .ok (.aload_n 0, 1) := by decide +kernel
theorem dX0_quietPlaces_16 : decode cX0_quietPlaces 16 = .ok (.aload_n 1, 1) := by decide +kernel
theorem dX0_quietPlaces_17 : decode cX0_quietPlaces 17 = .ok (.iload_n 3, 1) := by decide +kernel
theorem dX0_quietPlaces_18 : decode cX0_quietPlaces 18 = .ok (.invokevirtual 42, 3) := by decide +kernel
theorem dX0_quietPlaces_21 : decode cX0_quietPlaces 21 = .ok (.ifCond .ne 6, 3) := by decide +kernel
theorem dX0_quietPlaces_24 : decode cX0_quietPlaces 24 = .ok (.iinc 2 1, 3) := by decide +kernel
theorem dX0_quietPlaces_27 : decode cX0_quietPlaces 27 = .ok (.iinc 3 1, 3) := by decide +kernel
theorem dX0_quietPlaces_30 : decode cX0_quietPlaces 30 = .ok (.goto (-21), 3) := by decide +kernel
theorem dX0_quietPlaces_33 : decode cX0_quietPlaces 33 = .ok (.iload_n 2, 1) := by decide +kernel
theorem dX0_quietPlaces_34 : decode cX0_quietPlaces 34 = .ok (.ireturn, 1) := by decide +kernel
theorem dX0_nearestQuiet_0 : decode cX0_nearestQuiet 0 = .ok (.aload_n 0, 1) := by decide +kernel
theorem dX0_nearestQuiet_1 : decode cX0_nearestQuiet 1 = .ok (.aload_n 1, 1) := by decide +kernel
theorem dX0_nearestQuiet_2 : decode cX0_nearestQuiet 2 = .ok (.invokevirtual 38, 3) := by decide +kernel
theorem dX0_nearestQuiet_5 : decode cX0_nearestQuiet 5 = .ok (.iconst (-1), 1) := by decide +kernel
theorem dX0_nearestQuiet_6 : decode cX0_nearestQuiet 6 = .ok (.istore_n 2, 1) := by decide +kernel
theorem dX0_nearestQuiet_7 : decode cX0_nearestQuiet 7 = .ok (.bipush 19, 2) := by decide +kernel
theorem dX0_nearestQuiet_9 : decode cX0_nearestQuiet 9 = .ok (.istore_n 3, 1) := by decide +kernel
theorem dX0_nearestQuiet_10 : decode cX0_nearestQuiet 10 = .ok (.iconst 0, 1) := by decide +kernel
theorem dX0_nearestQuiet_11 : decode cX0_nearestQuiet 11 = .ok (.istore 4, 2) := by decide +kernel
theorem dX0_nearestQuiet_13 : decode cX0_nearestQuiet 13 = .ok (.iload 4, 2) := by decide +kernel
theorem dX0_nearestQuiet_15 : decode cX0_nearestQuiet 15 = .ok (.bipush 100, 2) := by decide +kernel
theorem dX0_nearestQuiet_17 : decode cX0_nearestQuiet 17 = .ok (.if_icmp .ge 47, 3) := by decide +kernel
theorem dX0_nearestQuiet_20 : decode cX0_nearestQuiet 20 = .ok (.aload_n 1, 1) := by decide +kernel
theorem dX0_nearestQuiet_21 : decode cX0_nearestQuiet 21 = .ok (.iload 4, 2) := by decide +kernel
theorem dX0_nearestQuiet_23 : decode cX0_nearestQuiet 23 = .ok (.bipush 10, 2) := by decide +kernel
theorem dX0_nearestQuiet_25 : decode cX0_nearestQuiet 25 = .ok (.idiv, 1) := by decide +kernel
theorem dX0_nearestQuiet_26 : decode cX0_nearestQuiet 26 = .ok (.iload 4, 2) := by decide +kernel
theorem dX0_nearestQuiet_28 : decode cX0_nearestQuiet 28 = .ok (.bipush 10, 2) := by decide +kernel
theorem dX0_nearestQuiet_30 : decode cX0_nearestQuiet 30 = .ok (.irem, 1) := by decide +kernel
theorem dX0_nearestQuiet_31 : decode cX0_nearestQuiet 31 = .ok (.invokevirtual 46, 3) := by decide +kernel
theorem dX0_nearestQuiet_34 : decode cX0_nearestQuiet 34 = .ok (.istore 5, 2) := by decide +kernel
theorem dX0_nearestQuiet_36 : decode cX0_nearestQuiet 36 = .ok (.iload 5, 2) := by decide +kernel
theorem dX0_nearestQuiet_38 : decode cX0_nearestQuiet 38 = .ok (.iload_n 3, 1) := by decide +kernel
theorem dX0_nearestQuiet_39 : decode cX0_nearestQuiet 39 = .ok (.if_icmp .ge 19, 3) := by decide +kernel
theorem dX0_nearestQuiet_42 : decode cX0_nearestQuiet 42 = .ok (.aload_n 0, 1) := by decide +kernel
theorem dX0_nearestQuiet_43 : decode cX0_nearestQuiet 43 = .ok (.aload_n 1, 1) := by decide +kernel
theorem dX0_nearestQuiet_44 : decode cX0_nearestQuiet 44 = .ok (.iload 4, 2) := by decide +kernel
theorem dX0_nearestQuiet_46 : decode cX0_nearestQuiet 46 = .ok (.invokevirtual 42, 3) := by decide +kernel
theorem dX0_nearestQuiet_49 : decode cX0_nearestQuiet 49 = .ok (.ifCond .ne 9, 3) := by decide +kernel
theorem dX0_nearestQuiet_52 : decode cX0_nearestQuiet 52 = .ok (.iload 5, 2) := by decide +kernel
theorem dX0_nearestQuiet_54 : decode cX0_nearestQuiet 54 = .ok (.istore_n 3, 1) := by decide +kernel
theorem dX0_nearestQuiet_55 : decode cX0_nearestQuiet 55 = .ok (.iload 4, 2) := by decide +kernel
theorem dX0_nearestQuiet_57 : decode cX0_nearestQuiet 57 = .ok (.istore_n 2, 1) := by decide +kernel
theorem dX0_nearestQuiet_58 : decode cX0_nearestQuiet 58 = .ok (.iinc 4 1, 3) := by decide +kernel
theorem dX0_nearestQuiet_61 : decode cX0_nearestQuiet 61 = .ok (.goto (-48), 3) := by decide +kernel
theorem dX0_nearestQuiet_64 : decode cX0_nearestQuiet 64 = .ok (.iload_n 2, 1) := by decide +kernel
theorem dX0_nearestQuiet_65 : decode cX0_nearestQuiet 65 = .ok (.ireturn, 1) := by decide +kernel
theorem dX0_worstPlace_0 : decode cX0_worstPlace 0 = .ok (.aload_n 0, 1) := by decide +kernel
theorem dX0_worstPlace_1 : decode cX0_worstPlace 1 = .ok (.aload_n 1, 1) := by decide +kernel
theorem dX0_worstPlace_2 : decode cX0_worstPlace 2 = .ok (.invokevirtual 38, 3) := by decide +kernel
theorem dX0_worstPlace_5 : decode cX0_worstPlace 5 = .ok (.iconst 0, 1) := by decide +kernel
theorem dX0_worstPlace_6 : decode cX0_worstPlace 6 = .ok (.istore_n 2, 1) := by decide +kernel
theorem dX0_worstPlace_7 : decode cX0_worstPlace 7 = .ok (.iconst (-1), 1) := by decide +kernel
theorem dX0_worstPlace_8 : decode cX0_worstPlace 8 = .ok (.istore_n 3, 1) := by decide +kernel
theorem dX0_worstPlace_9 : decode cX0_worstPlace 9 = .ok (.iconst 0, 1) := by decide +kernel
theorem dX0_worstPlace_10 : decode cX0_worstPlace 10 = .ok (.istore 4, 2) := by decide +kernel
theorem dX0_worstPlace_12 : decode cX0_worstPlace 12 = .ok (.iload 4, 2) := by decide +kernel
theorem dX0_worstPlace_14 : decode cX0_worstPlace 14 = .ok (.bipush 100, 2) := by decide +kernel
theorem dX0_worstPlace_16 : decode cX0_worstPlace 16 = .ok (.if_icmp .ge 30, 3) := by decide +kernel
theorem dX0_worstPlace_19 : decode cX0_worstPlace 19 = .ok (.aload_n 0, 1) := by decide +kernel
theorem dX0_worstPlace_20 : decode cX0_worstPlace 20 = .ok (.aload_n 1, 1) := by decide +kernel
theorem dX0_worstPlace_21 : decode cX0_worstPlace 21 = .ok (.iload 4, 2) := by decide +kernel
theorem dX0_worstPlace_23 : decode cX0_worstPlace 23 = .ok (.invokevirtual 42, 3) := by decide +kernel
theorem dX0_worstPlace_26 : decode cX0_worstPlace 26 = .ok (.istore 5, 2) := by decide +kernel
theorem dX0_worstPlace_28 : decode cX0_worstPlace 28 = .ok (.iload 5, 2) := by decide +kernel
theorem dX0_worstPlace_30 : decode cX0_worstPlace 30 = .ok (.iload_n 3, 1) := by decide +kernel
theorem dX0_worstPlace_31 : decode cX0_worstPlace 31 = .ok (.if_icmp .le 9, 3) := by decide +kernel
theorem dX0_worstPlace_34 : decode cX0_worstPlace 34 = .ok (.iload 5, 2) := by decide +kernel
theorem dX0_worstPlace_36 : decode cX0_worstPlace 36 = .ok (.istore_n 3, 1) := by decide +kernel
theorem dX0_worstPlace_37 : decode cX0_worstPlace 37 = .ok (.iload 4, 2) := by decide +kernel
theorem dX0_worstPlace_39 : decode cX0_worstPlace 39 = .ok (.istore_n 2, 1) := by decide +kernel
theorem dX0_worstPlace_40 : decode cX0_worstPlace 40 = .ok (.iinc 4 1, 3) := by decide +kernel
theorem dX0_worstPlace_43 : decode cX0_worstPlace 43 = .ok (.goto (-31), 3) := by decide +kernel
theorem dX0_worstPlace_46 : decode cX0_worstPlace 46 = .ok (.iload_n 2, 1) := by decide +kernel
theorem dX0_worstPlace_47 : decode cX0_worstPlace 47 = .ok (.ireturn, 1) := by decide +kernel
theorem dX0_refuge_0 : decode cX0_refuge 0 = .ok (.aload_n 0, 1) := by decide +kernel
theorem dX0_refuge_1 : decode cX0_refuge 1 = .ok (.iload_n 1, 1) := by decide +kernel
theorem dX0_refuge_2 : decode cX0_refuge 2 = .ok (.iconst 0, 1) := by decide +kernel
theorem dX0_refuge_3 : decode cX0_refuge 3 = .ok (.iconst 0, 1) := by decide +kernel
theorem dX0_refuge_4 : decode cX0_refuge 4 = .ok (.invokevirtual 21, 3) := by decide +kernel
theorem dX0_refuge_7 : decode cX0_refuge 7 = .ok (.istore_n 2, 1) := by decide +kernel
theorem dX0_refuge_8 : decode cX0_refuge 8 = .ok (.iconst (-1), 1) := by decide +kernel
theorem dX0_refuge_9 : decode cX0_refuge 9 = .ok (.istore_n 3, 1) := by decide +kernel
theorem dX0_refuge_10 : decode cX0_refuge 10 = .ok (.bipush 19, 2) := by decide +kernel
theorem dX0_refuge_12 : decode cX0_refuge 12 = .ok (.istore 4, 2) := by decide +kernel
theorem dX0_refuge_14 : decode cX0_refuge 14 = .ok (.iconst 0, 1) := by decide +kernel
theorem dX0_refuge_15 : decode cX0_refuge 15 = .ok (.istore 5, 2) := by decide +kernel
theorem dX0_refuge_17 : decode cX0_refuge 17 = .ok (.iload 5, 2) := by decide +kernel
theorem dX0_refuge_19 : decode cX0_refuge 19 = .ok (.bipush 100, 2) := by decide +kernel
theorem dX0_refuge_21 : decode cX0_refuge 21 = .ok (.if_icmp .ge 63, 3) := by decide +kernel
theorem dX0_refuge_24 : decode cX0_refuge 24 = .ok (.iload 5, 2) := by decide +kernel
theorem dX0_refuge_26 : decode cX0_refuge 26 = .ok (.bipush 10, 2) := by decide +kernel
theorem dX0_refuge_28 : decode cX0_refuge 28 = .ok (.idiv, 1) := by decide +kernel
theorem dX0_refuge_29 : decode cX0_refuge 29 = .ok (.istore 6, 2) := by decide +kernel
theorem dX0_refuge_31 : decode cX0_refuge 31 = .ok (.iload 5, 2) := by decide +kernel
theorem dX0_refuge_33 : decode cX0_refuge 33 = .ok (.bipush 10, 2) := by decide +kernel
theorem dX0_refuge_35 : decode cX0_refuge 35 = .ok (.irem, 1) := by decide +kernel
theorem dX0_refuge_36 : decode cX0_refuge 36 = .ok (.istore 7, 2) := by decide +kernel
theorem dX0_refuge_38 : decode cX0_refuge 38 = .ok (.aload_n 0, 1) := by decide +kernel
theorem dX0_refuge_39 : decode cX0_refuge 39 = .ok (.iload 6, 2) := by decide +kernel
theorem dX0_refuge_41 : decode cX0_refuge 41 = .ok (.iload 7, 2) := by decide +kernel
theorem dX0_refuge_43 : decode cX0_refuge 43 = .ok (.invokevirtual 46, 3) := by decide +kernel
theorem dX0_refuge_46 : decode cX0_refuge 46 = .ok (.iload_n 2, 1) := by decide +kernel
theorem dX0_refuge_47 : decode cX0_refuge 47 = .ok (.if_icmp .le 31, 3) := by decide +kernel
theorem dX0_refuge_50 : decode cX0_refuge 50 = .ok (.aload_n 0, 1) := by decide +kernel
theorem dX0_refuge_51 : decode cX0_refuge 51 = .ok (.iload_n 1, 1) := by decide +kernel
theorem dX0_refuge_52 : decode cX0_refuge 52 = .ok (.iload 6, 2) := by decide +kernel
theorem dX0_refuge_54 : decode cX0_refuge 54 = .ok (.iload 7, 2) := by decide +kernel
theorem dX0_refuge_56 : decode cX0_refuge 56 = .ok (.invokevirtual 31, 3) := by decide +kernel
theorem dX0_refuge_59 : decode cX0_refuge 59 = .ok (.iload 4, 2) := by decide +kernel
theorem dX0_refuge_61 : decode cX0_refuge 61 = .ok (.if_icmp .ge 17, 3) := by decide +kernel
theorem dX0_refuge_64 : decode cX0_refuge 64 = .ok (.aload_n 0, 1) := by decide +kernel
theorem dX0_refuge_65 : decode cX0_refuge 65 = .ok (.iload_n 1, 1) := by decide +kernel
theorem dX0_refuge_66 : decode cX0_refuge 66 = .ok (.iload 6, 2) := by decide +kernel
theorem dX0_refuge_68 : decode cX0_refuge 68 = .ok (.iload 7, 2) := by decide +kernel
theorem dX0_refuge_70 : decode cX0_refuge 70 = .ok (.invokevirtual 31, 3) := by decide +kernel
theorem dX0_refuge_73 : decode cX0_refuge 73 = .ok (.istore 4, 2) := by decide +kernel
theorem dX0_refuge_75 : decode cX0_refuge 75 = .ok (.iload 5, 2) := by decide +kernel
theorem dX0_refuge_77 : decode cX0_refuge 77 = .ok (.istore_n 3, 1) := by decide +kernel
theorem dX0_refuge_78 : decode cX0_refuge 78 = .ok (.iinc 5 1, 3) := by decide +kernel
theorem dX0_refuge_81 : decode cX0_refuge 81 = .ok (.goto (-64), 3) := by decide +kernel
theorem dX0_refuge_84 : decode cX0_refuge 84 = .ok (.iload_n 3, 1) := by decide +kernel
theorem dX0_refuge_85 : decode cX0_refuge 85 = .ok (.ireturn, 1) := by decide +kernel
theorem dX0_grace_0 : decode cX0_grace 0 = .ok (.iconst 0, 1) := by decide +kernel
theorem dX0_grace_1 : decode cX0_grace 1 = .ok (.istore_n 1, 1) := by decide +kernel
theorem dX0_grace_2 : decode cX0_grace 2 = .ok (.iload_n 1, 1) := by decide +kernel
theorem dX0_grace_3 : decode cX0_grace 3 = .ok (.bipush 9, 2) := by decide +kernel
theorem dX0_grace_5 : decode cX0_grace 5 = .ok (.if_icmp .ge 58, 3) := by decide +kernel
theorem dX0_grace_8 : decode cX0_grace 8 = .ok (.iconst 1, 1) := by decide +kernel
theorem dX0_grace_9 : decode cX0_grace 9 = .ok (.istore_n 2, 1) := by decide +kernel
theorem dX0_grace_10 : decode cX0_grace 10 = .ok (.iconst 0, 1) := by decide +kernel
theorem dX0_grace_11 : decode cX0_grace 11 = .ok (.istore_n 3, 1) := by decide +kernel
theorem dX0_grace_12 : decode cX0_grace 12 = .ok (.iload_n 3, 1) := by decide +kernel
theorem dX0_grace_13 : decode cX0_grace 13 = .ok (.aload_n 0, 1) := by decide +kernel
theorem dX0_grace_14 : decode cX0_grace 14 = .ok (.getfield 15, 3) := by decide +kernel
theorem dX0_grace_17 : decode cX0_grace 17 = .ok (.if_icmp .ge 34, 3) := by decide +kernel
theorem dX0_grace_20 : decode cX0_grace 20 = .ok (.iload_n 2, 1) := by decide +kernel
theorem dX0_grace_21 : decode cX0_grace 21 = .ok (.ifCond .eq 22, 3) := by decide +kernel
theorem dX0_grace_24 : decode cX0_grace 24 = .ok (.aload_n 0, 1) := by decide +kernel
theorem dX0_grace_25 : decode cX0_grace 25 = .ok (.iload_n 3, 1) := by decide +kernel
theorem dX0_grace_26 : decode cX0_grace 26 = .ok (.invokevirtual 50, 3) := by decide +kernel
theorem dX0_grace_29 : decode cX0_grace 29 = .ok (.aload_n 0, 1) := by decide +kernel
theorem dX0_grace_30 : decode cX0_grace 30 = .ok (.iload_n 3, 1) := by decide +kernel
theorem dX0_grace_31 : decode cX0_grace 31 = .ok (.iload_n 1, 1) := by decide +kernel
theorem dX0_grace_32 : decode cX0_grace 32 = .ok (.iconst 0, 1) := by decide +kernel
theorem dX0_grace_33 : decode cX0_grace 33 = .ok (.invokevirtual 21, 3) := by decide +kernel
theorem dX0_grace_36 : decode cX0_grace 36 = .ok (.if_icmp .le 7, 3) := by decide +kernel
theorem dX0_grace_39 : decode cX0_grace 39 = .ok (.iconst 1, 1) := by decide +kernel
theorem dX0_grace_40 : decode cX0_grace 40 = .ok (.goto 4, 3) := by decide +kernel
theorem dX0_grace_43 : decode cX0_grace 43 = .ok (.iconst 0, 1) := by decide +kernel
theorem dX0_grace_44 : decode cX0_grace 44 = .ok (.istore_n 2, 1) := by decide +kernel
theorem dX0_grace_45 : decode cX0_grace 45 = .ok (.iinc 3 1, 3) := by decide +kernel
theorem dX0_grace_48 : decode cX0_grace 48 = .ok (.goto (-36), 3) := by decide +kernel
theorem dX0_grace_51 : decode cX0_grace 51 = .ok (.iload_n 2, 1) := by decide +kernel
theorem dX0_grace_52 : decode cX0_grace 52 = .ok (.ifCond .eq 5, 3) := by decide +kernel
theorem dX0_grace_55 : decode cX0_grace 55 = .ok (.iload_n 1, 1) := by decide +kernel
theorem dX0_grace_56 : decode cX0_grace 56 = .ok (.ireturn, 1) := by decide +kernel
theorem dX0_grace_57 : decode cX0_grace 57 = .ok (.iinc 1 1, 3) := by decide +kernel
theorem dX0_grace_60 : decode cX0_grace 60 = .ok (.goto (-58), 3) := by decide +kernel
theorem dX0_grace_63 : decode cX0_grace 63 = .ok (.bipush 9, 2) := by decide +kernel
theorem dX0_grace_65 : decode cX0_grace 65 = .ok (.ireturn, 1) := by decide +kernel
theorem dX0_deafness_0 : decode cX0_deafness 0 = .ok (.iconst 0, 1) := by decide +kernel
theorem dX0_deafness_1 : decode cX0_deafness 1 = .ok (.istore_n 1, 1) := by decide +kernel
theorem dX0_deafness_2 : decode cX0_deafness 2 = .ok (.iconst 0, 1) := by decide +kernel
theorem dX0_deafness_3 : decode cX0_deafness 3 = .ok (.istore_n 2, 1) := by decide +kernel
theorem dX0_deafness_4 : decode cX0_deafness 4 = .ok (.iload_n 2, 1) := by decide +kernel
theorem dX0_deafness_5 : decode cX0_deafness 5 = .ok (.aload_n 0, 1) := by decide +kernel
theorem dX0_deafness_6 : decode cX0_deafness 6 = .ok (.getfield 15, 3) := by decide +kernel
theorem dX0_deafness_9 : decode cX0_deafness 9 = .ok (.if_icmp .ge 29, 3) := by decide +kernel
theorem dX0_deafness_12 : decode cX0_deafness 12 = .ok (.iload_n 1, 1) := by decide +kernel
theorem dX0_deafness_13 : decode cX0_deafness 13 = .ok (.aload_n 0, 1) := by decide +kernel
theorem dX0_deafness_14 : decode cX0_deafness 14 = .ok (.iload_n 2, 1) := by decide +kernel
theorem dX0_deafness_15 : decode cX0_deafness 15 = .ok (.iconst 0, 1) := by decide +kernel
theorem dX0_deafness_16 : decode cX0_deafness 16 = .ok (.iconst 0, 1) := by decide +kernel
theorem dX0_deafness_17 : decode cX0_deafness 17 = .ok (.invokevirtual 21, 3) := by decide +kernel
theorem dX0_deafness_20 : decode cX0_deafness 20 = .ok (.aload_n 0, 1) := by decide +kernel
theorem dX0_deafness_21 : decode cX0_deafness 21 = .ok (.iload_n 2, 1) := by decide +kernel
theorem dX0_deafness_22 : decode cX0_deafness 22 = .ok (.invokevirtual 50, 3) := by decide +kernel
theorem dX0_deafness_25 : decode cX0_deafness 25 = .ok (.isub, 1) := by decide +kernel
theorem dX0_deafness_26 : decode cX0_deafness 26 = .ok (.iconst 1, 1) := by decide +kernel
theorem dX0_deafness_27 : decode cX0_deafness 27 = .ok (.iadd, 1) := by decide +kernel
theorem dX0_deafness_28 : decode cX0_deafness 28 = .ok (.invokestatic 54, 3) := by decide +kernel
theorem dX0_deafness_31 : decode cX0_deafness 31 = .ok (.istore_n 1, 1) := by decide +kernel
theorem dX0_deafness_32 : decode cX0_deafness 32 = .ok (.iinc 2 1, 3) := by decide +kernel
theorem dX0_deafness_35 : decode cX0_deafness 35 = .ok (.goto (-31), 3) := by decide +kernel
theorem dX0_deafness_38 : decode cX0_deafness 38 = .ok (.iload_n 1, 1) := by decide +kernel
theorem dX0_deafness_39 : decode cX0_deafness 39 = .ok (.ireturn, 1) := by decide +kernel
theorem dX0_wouldOffend_0 : decode cX0_wouldOffend 0 = .ok (.iconst 0, 1) := by decide +kernel
theorem dX0_wouldOffend_1 : decode cX0_wouldOffend 1 = .ok (.istore_n 1, 1) := by decide +kernel
theorem dX0_wouldOffend_2 : decode cX0_wouldOffend 2 = .ok (.iconst 0, 1) := by decide +kernel
theorem dX0_wouldOffend_3 : decode cX0_wouldOffend 3 = .ok (.istore_n 2, 1) := by decide +kernel
theorem dX0_wouldOffend_4 : decode cX0_wouldOffend 4 = .ok (.iload_n 2, 1) := by decide +kernel
theorem dX0_wouldOffend_5 : decode cX0_wouldOffend 5 = .ok (.aload_n 0, 1) := by decide +kernel
theorem dX0_wouldOffend_6 : decode cX0_wouldOffend 6 = .ok (.getfield 15, 3) := by decide +kernel
theorem dX0_wouldOffend_9 : decode cX0_wouldOffend 9 = .ok (.if_icmp .ge 25, 3) := by decide +kernel
theorem dX0_wouldOffend_12 : decode cX0_wouldOffend 12 = .ok (.aload_n 0, 1) := by decide +kernel
theorem dX0_wouldOffend_13 : decode cX0_wouldOffend 13 = .ok (.iload_n 2, 1) := by decide +kernel
theorem dX0_wouldOffend_14 : decode cX0_wouldOffend 14 = .ok (.iconst 0, 1) := by decide +kernel
theorem dX0_wouldOffend_15 : decode cX0_wouldOffend 15 = .ok (.iconst 0, 1) := by decide +kernel
theorem dX0_wouldOffend_16 : decode cX0_wouldOffend 16 = .ok (.invokevirtual 21, 3) := by decide +kernel
theorem dX0_wouldOffend_19 : decode cX0_wouldOffend 19 = .ok (.ifCond .lt 9, 3) := by decide +kernel
theorem dX0_wouldOffend_22 : decode cX0_wouldOffend 22 = .ok (.iload_n 1, 1) := by decide +kernel
theorem dX0_wouldOffend_23 : decode cX0_wouldOffend 23 = .ok (.iconst 1, 1) := by decide +kernel
theorem dX0_wouldOffend_24 : decode cX0_wouldOffend 24 = .ok (.iload_n 2, 1) := by decide +kernel
theorem dX0_wouldOffend_25 : decode cX0_wouldOffend 25 = .ok (.ishl, 1) := by decide +kernel
theorem dX0_wouldOffend_26 : decode cX0_wouldOffend 26 = .ok (.ior, 1) := by decide +kernel
theorem dX0_wouldOffend_27 : decode cX0_wouldOffend 27 = .ok (.istore_n 1, 1) := by decide +kernel
theorem dX0_wouldOffend_28 : decode cX0_wouldOffend 28 = .ok (.iinc 2 1, 3) := by decide +kernel
theorem dX0_wouldOffend_31 : decode cX0_wouldOffend 31 = .ok (.goto (-27), 3) := by decide +kernel
theorem dX0_wouldOffend_34 : decode cX0_wouldOffend 34 = .ok (.iload_n 1, 1) := by decide +kernel
theorem dX0_wouldOffend_35 : decode cX0_wouldOffend 35 = .ok (.ireturn, 1) := by decide +kernel
theorem dX0_inTheEnd_0 : decode cX0_inTheEnd 0 = .ok (.iload_n 1, 1) := by decide +kernel
theorem dX0_inTheEnd_1 : decode cX0_inTheEnd 1 = .ok (.iconst 1, 1) := by decide +kernel
theorem dX0_inTheEnd_2 : decode cX0_inTheEnd 2 = .ok (.aload_n 0, 1) := by decide +kernel
theorem dX0_inTheEnd_3 : decode cX0_inTheEnd 3 = .ok (.iconst 0, 1) := by decide +kernel
theorem dX0_inTheEnd_4 : decode cX0_inTheEnd 4 = .ok (.invokevirtual 59, 3) := by decide +kernel
theorem dX0_inTheEnd_7 : decode cX0_inTheEnd 7 = .ok (.aload_n 0, 1) := by decide +kernel
theorem dX0_inTheEnd_8 : decode cX0_inTheEnd 8 = .ok (.invokestatic 62, 3) := by decide +kernel
theorem dX0_inTheEnd_11 : decode cX0_inTheEnd 11 = .ok (.invokestatic 66, 3) := by decide +kernel
theorem dX0_inTheEnd_14 : decode cX0_inTheEnd 14 = .ok (.ireturn, 1) := by decide +kernel
theorem dX0_firstTurn_0 : decode cX0_firstTurn 0 = .ok (.iload_n 1, 1) := by decide +kernel
theorem dX0_firstTurn_1 : decode cX0_firstTurn 1 = .ok (.ifCond .gt 5, 3) := by decide +kernel
theorem dX0_firstTurn_4 : decode cX0_firstTurn 4 = .ok (.iconst (-1), 1) := by decide +kernel
theorem dX0_firstTurn_5 : decode cX0_firstTurn 5 = .ok (.ireturn, 1) := by decide +kernel
theorem dX0_firstTurn_6 : decode cX0_firstTurn 6 = .ok (.aload_n 0, 1) := by decide +kernel
theorem dX0_firstTurn_7 : decode cX0_firstTurn 7 = .ok (.iconst 0, 1) := by decide +kernel
theorem dX0_firstTurn_8 : decode cX0_firstTurn 8 = .ok (.invokevirtual 59, 3) := by decide +kernel
theorem dX0_firstTurn_11 : decode cX0_firstTurn 11 = .ok (.istore_n 2, 1) := by decide +kernel
theorem dX0_firstTurn_12 : decode cX0_firstTurn 12 = .ok (.aload_n 0, 1) := by decide +kernel
theorem dX0_firstTurn_13 : decode cX0_firstTurn 13 = .ok (.invokestatic 62, 3) := by decide +kernel
theorem dX0_firstTurn_16 : decode cX0_firstTurn 16 = .ok (.istore_n 3, 1) := by decide +kernel
theorem dX0_firstTurn_17 : decode cX0_firstTurn 17 = .ok (.iload_n 1, 1) := by decide +kernel
theorem dX0_firstTurn_18 : decode cX0_firstTurn 18 = .ok (.iconst 1, 1) := by decide +kernel
theorem dX0_firstTurn_19 : decode cX0_firstTurn 19 = .ok (.iload_n 2, 1) := by decide +kernel
theorem dX0_firstTurn_20 : decode cX0_firstTurn 20 = .ok (.iload_n 3, 1) := by decide +kernel
theorem dX0_firstTurn_21 : decode cX0_firstTurn 21 = .ok (.invokestatic 66, 3) := by decide +kernel
theorem dX0_firstTurn_24 : decode cX0_firstTurn 24 = .ok (.istore 4, 2) := by decide +kernel
theorem dX0_firstTurn_26 : decode cX0_firstTurn 26 = .ok (.iconst 0, 1) := by decide +kernel
theorem dX0_firstTurn_27 : decode cX0_firstTurn 27 = .ok (.istore 5, 2) := by decide +kernel
theorem dX0_firstTurn_29 : decode cX0_firstTurn 29 = .ok (.iload 5, 2) := by decide +kernel
theorem dX0_firstTurn_31 : decode cX0_firstTurn 31 = .ok (.aload_n 0, 1) := by decide +kernel
theorem dX0_firstTurn_32 : decode cX0_firstTurn 32 = .ok (.getfield 15, 3) := by decide +kernel
theorem dX0_firstTurn_35 : decode cX0_firstTurn 35 = .ok (.if_icmp .ge 40, 3) := by decide +kernel
theorem dX0_firstTurn_38 : decode cX0_firstTurn 38 = .ok (.iload_n 1, 1) := by decide +kernel
theorem dX0_firstTurn_39 : decode cX0_firstTurn 39 = .ok (.iconst 1, 1) := by decide +kernel
theorem dX0_firstTurn_40 : decode cX0_firstTurn 40 = .ok (.isub, 1) := by decide +kernel
theorem dX0_firstTurn_41 : decode cX0_firstTurn 41 = .ok (.iconst 0, 1) := by decide +kernel
theorem dX0_firstTurn_42 : decode cX0_firstTurn 42 = .ok (.iload_n 2, 1) := by decide +kernel
theorem dX0_firstTurn_43 : decode cX0_firstTurn 43 = .ok (.iconst 1, 1) := by decide +kernel
theorem dX0_firstTurn_44 : decode cX0_firstTurn 44 = .ok (.iload 5, 2) := by decide +kernel
theorem dX0_firstTurn_46 : decode cX0_firstTurn 46 = .ok (.ishl, 1) := by decide +kernel
theorem dX0_firstTurn_47 : decode cX0_firstTurn 47 = .ok (.iconst (-1), 1) := by decide +kernel
theorem dX0_firstTurn_48 : decode cX0_firstTurn 48 = .ok (.ixor, 1) := by decide +kernel
theorem dX0_firstTurn_49 : decode cX0_firstTurn 49 = .ok (.iand, 1) := by decide +kernel
theorem dX0_firstTurn_50 : decode cX0_firstTurn 50 = .ok (.iload_n 3, 1) := by decide +kernel
theorem dX0_firstTurn_51 : decode cX0_firstTurn 51 = .ok (.iconst 1, 1) := by decide +kernel
theorem dX0_firstTurn_52 : decode cX0_firstTurn 52 = .ok (.iload 5, 2) := by decide +kernel
theorem dX0_firstTurn_54 : decode cX0_firstTurn 54 = .ok (.ishl, 1) := by decide +kernel
theorem dX0_firstTurn_55 : decode cX0_firstTurn 55 = .ok (.iconst (-1), 1) := by decide +kernel
theorem dX0_firstTurn_56 : decode cX0_firstTurn 56 = .ok (.ixor, 1) := by decide +kernel
theorem dX0_firstTurn_57 : decode cX0_firstTurn 57 = .ok (.iand, 1) := by decide +kernel
theorem dX0_firstTurn_58 : decode cX0_firstTurn 58 = .ok (.invokestatic 66, 3) := by decide +kernel
theorem dX0_firstTurn_61 : decode cX0_firstTurn 61 = .ok (.iload 4, 2) := by decide +kernel
theorem dX0_firstTurn_63 : decode cX0_firstTurn 63 = .ok (.if_icmp .ne 6, 3) := by decide +kernel
theorem dX0_firstTurn_66 : decode cX0_firstTurn 66 = .ok (.iload 5, 2) := by decide +kernel
theorem dX0_firstTurn_68 : decode cX0_firstTurn 68 = .ok (.ireturn, 1) := by decide +kernel
theorem dX0_firstTurn_69 : decode cX0_firstTurn 69 = .ok (.iinc 5 1, 3) := by decide +kernel
theorem dX0_firstTurn_72 : decode cX0_firstTurn 72 = .ok (.goto (-43), 3) := by decide +kernel
theorem dX0_firstTurn_75 : decode cX0_firstTurn 75 = .ok (.bipush 8, 2) := by decide +kernel
theorem dX0_firstTurn_77 : decode cX0_firstTurn 77 = .ok (.ireturn, 1) := by decide +kernel
theorem dX0_lookAhead_0 : decode cX0_lookAhead 0 = .ok (.iload_n 0, 1) := by decide +kernel
theorem dX0_lookAhead_1 : decode cX0_lookAhead 1 = .ok (.ifCond .gt 8, 3) := by decide +kernel
theorem dX0_lookAhead_4 : decode cX0_lookAhead 4 = .ok (.iload_n 2, 1) := by decide +kernel
theorem dX0_lookAhead_5 : decode cX0_lookAhead 5 = .ok (.invokestatic 70, 3) := by decide +kernel
theorem dX0_lookAhead_8 : decode cX0_lookAhead 8 = .ok (.ireturn, 1) := by decide +kernel
theorem dX0_lookAhead_9 : decode cX0_lookAhead 9 = .ok (.iload_n 0, 1) := by decide +kernel
theorem dX0_lookAhead_10 : decode cX0_lookAhead 10 = .ok (.iconst 1, 1) := by decide +kernel
theorem dX0_lookAhead_11 : decode cX0_lookAhead 11 = .ok (.isub, 1) := by decide +kernel
theorem dX0_lookAhead_12 : decode cX0_lookAhead 12 = .ok (.iload_n 1, 1) := by decide +kernel
theorem dX0_lookAhead_13 : decode cX0_lookAhead 13 = .ok (.ifCond .ne 7, 3) := by decide +kernel
theorem dX0_lookAhead_16 : decode cX0_lookAhead 16 = .ok (.iconst 1, 1) := by decide +kernel
theorem dX0_lookAhead_17 : decode cX0_lookAhead 17 = .ok (.goto 4, 3) := by decide +kernel
theorem dX0_lookAhead_20 : decode cX0_lookAhead 20 = .ok (.iconst 0, 1) := by decide +kernel
theorem dX0_lookAhead_21 : decode cX0_lookAhead 21 = .ok (.iload_n 2, 1) := by decide +kernel
theorem dX0_lookAhead_22 : decode cX0_lookAhead 22 = .ok (.iload_n 3, 1) := by decide +kernel
theorem dX0_lookAhead_23 : decode cX0_lookAhead 23 = .ok (.invokestatic 66, 3) := by decide +kernel
theorem dX0_lookAhead_26 : decode cX0_lookAhead 26 = .ok (.istore 4, 2) := by decide +kernel
theorem dX0_lookAhead_28 : decode cX0_lookAhead 28 = .ok (.iload_n 1, 1) := by decide +kernel
theorem dX0_lookAhead_29 : decode cX0_lookAhead 29 = .ok (.ifCond .eq 7, 3) := by decide +kernel
theorem dX0_lookAhead_32 : decode cX0_lookAhead 32 = .ok (.iload_n 3, 1) := by decide +kernel
theorem dX0_lookAhead_33 : decode cX0_lookAhead 33 = .ok (.goto 8, 3) := by decide +kernel
theorem dX0_lookAhead_36 : decode cX0_lookAhead 36 = .ok (.iload_n 3, 1) := by decide +kernel
theorem dX0_lookAhead_37 : decode cX0_lookAhead 37 = .ok (.iload_n 2, 1) := by decide +kernel
theorem dX0_lookAhead_38 : decode cX0_lookAhead 38 = .ok (.iconst (-1), 1) := by decide +kernel
theorem dX0_lookAhead_39 : decode cX0_lookAhead 39 = .ok (.ixor, 1) := by decide +kernel
theorem dX0_lookAhead_40 : decode cX0_lookAhead 40 = .ok (.iand, 1) := by decide +kernel
theorem dX0_lookAhead_41 : decode cX0_lookAhead 41 = .ok (.istore 5, 2) := by decide +kernel
theorem dX0_lookAhead_43 : decode cX0_lookAhead 43 = .ok (.iconst 0, 1) := by decide +kernel
theorem dX0_lookAhead_44 : decode cX0_lookAhead 44 = .ok (.istore 6, 2) := by decide +kernel
theorem dX0_lookAhead_46 : decode cX0_lookAhead 46 = .ok (.iload 6, 2) := by decide +kernel
theorem dX0_lookAhead_48 : decode cX0_lookAhead 48 = .ok (.bipush 8, 2) := by decide +kernel
theorem dX0_lookAhead_50 : decode cX0_lookAhead 50 = .ok (.if_icmp .ge 78, 3) := by decide +kernel
theorem dX0_lookAhead_53 : decode cX0_lookAhead 53 = .ok (.iconst 1, 1) := by decide +kernel
theorem dX0_lookAhead_54 : decode cX0_lookAhead 54 = .ok (.iload 6, 2) := by decide +kernel
theorem dX0_lookAhead_56 : decode cX0_lookAhead 56 = .ok (.ishl, 1) := by decide +kernel
theorem dX0_lookAhead_57 : decode cX0_lookAhead 57 = .ok (.istore 7, 2) := by decide +kernel
theorem dX0_lookAhead_59 : decode cX0_lookAhead 59 = .ok (.iload 5, 2) := by decide +kernel
theorem dX0_lookAhead_61 : decode cX0_lookAhead 61 = .ok (.iload 7, 2) := by decide +kernel
theorem dX0_lookAhead_63 : decode cX0_lookAhead 63 = .ok (.iand, 1) := by decide +kernel
theorem dX0_lookAhead_64 : decode cX0_lookAhead 64 = .ok (.ifCond .ne 6, 3) := by decide +kernel
theorem dX0_lookAhead_67 : decode cX0_lookAhead 67 = .ok (.goto 55, 3) := by decide +kernel
theorem dX0_lookAhead_70 : decode cX0_lookAhead 70 = .ok (.iload_n 1, 1) := by decide +kernel
theorem dX0_lookAhead_71 : decode cX0_lookAhead 71 = .ok (.ifCond .eq 32, 3) := by decide +kernel
theorem dX0_lookAhead_74 : decode cX0_lookAhead 74 = .ok (.iload 4, 2) := by decide +kernel
theorem dX0_lookAhead_76 : decode cX0_lookAhead 76 = .ok (.iload_n 0, 1) := by decide +kernel
theorem dX0_lookAhead_77 : decode cX0_lookAhead 77 = .ok (.iconst 1, 1) := by decide +kernel
theorem dX0_lookAhead_78 : decode cX0_lookAhead 78 = .ok (.isub, 1) := by decide +kernel
theorem dX0_lookAhead_79 : decode cX0_lookAhead 79 = .ok (.iconst 0, 1) := by decide +kernel
theorem dX0_lookAhead_80 : decode cX0_lookAhead 80 = .ok (.iload_n 2, 1) := by decide +kernel
theorem dX0_lookAhead_81 : decode cX0_lookAhead 81 = .ok (.iload 7, 2) := by decide +kernel
theorem dX0_lookAhead_83 : decode cX0_lookAhead 83 = .ok (.iconst (-1), 1) := by decide +kernel
theorem dX0_lookAhead_84 : decode cX0_lookAhead 84 = .ok (.ixor, 1) := by decide +kernel
theorem dX0_lookAhead_85 : decode cX0_lookAhead 85 = .ok (.iand, 1) := by decide +kernel
theorem dX0_lookAhead_86 : decode cX0_lookAhead 86 = .ok (.iload_n 3, 1) := by decide +kernel
theorem dX0_lookAhead_87 : decode cX0_lookAhead 87 = .ok (.iload 7, 2) := by decide +kernel
theorem dX0_lookAhead_89 : decode cX0_lookAhead 89 = .ok (.iconst (-1), 1) := by decide +kernel
theorem dX0_lookAhead_90 : decode cX0_lookAhead 90 = .ok (.ixor, 1) := by decide +kernel
theorem dX0_lookAhead_91 : decode cX0_lookAhead 91 = .ok (.iand, 1) := by decide +kernel
theorem dX0_lookAhead_92 : decode cX0_lookAhead 92 = .ok (.invokestatic 66, 3) := by decide +kernel
theorem dX0_lookAhead_95 : decode cX0_lookAhead 95 = .ok (.invokestatic 75, 3) := by decide +kernel
theorem dX0_lookAhead_98 : decode cX0_lookAhead 98 = .ok (.istore 4, 2) := by decide +kernel
theorem dX0_lookAhead_100 : decode cX0_lookAhead 100 = .ok (.goto 22, 3) := by decide +kernel
theorem dX0_lookAhead_103 : decode cX0_lookAhead 103 = .ok (.iload 4, 2) := by decide +kernel
theorem dX0_lookAhead_105 : decode cX0_lookAhead 105 = .ok (.iload_n 0, 1) := by decide +kernel
theorem dX0_lookAhead_106 : decode cX0_lookAhead 106 = .ok (.iconst 1, 1) := by decide +kernel
theorem dX0_lookAhead_107 : decode cX0_lookAhead 107 = .ok (.isub, 1) := by decide +kernel
theorem dX0_lookAhead_108 : decode cX0_lookAhead 108 = .ok (.iconst 1, 1) := by decide +kernel
theorem dX0_lookAhead_109 : decode cX0_lookAhead 109 = .ok (.iload_n 2, 1) := by decide +kernel
theorem dX0_lookAhead_110 : decode cX0_lookAhead 110 = .ok (.iload 7, 2) := by decide +kernel
theorem dX0_lookAhead_112 : decode cX0_lookAhead 112 = .ok (.ior, 1) := by decide +kernel
theorem dX0_lookAhead_113 : decode cX0_lookAhead 113 = .ok (.iload_n 3, 1) := by decide +kernel
theorem dX0_lookAhead_114 : decode cX0_lookAhead 114 = .ok (.invokestatic 66, 3) := by decide +kernel
theorem dX0_lookAhead_117 : decode cX0_lookAhead 117 = .ok (.invokestatic 54, 3) := by decide +kernel
theorem dX0_lookAhead_120 : decode cX0_lookAhead 120 = .ok (.istore 4, 2) := by decide +kernel
theorem dX0_lookAhead_122 : decode cX0_lookAhead 122 = .ok (.iinc 6 1, 3) := by decide +kernel
theorem dX0_lookAhead_125 : decode cX0_lookAhead 125 = .ok (.goto (-79), 3) := by decide +kernel
theorem dX0_lookAhead_128 : decode cX0_lookAhead 128 = .ok (.iload 4, 2) := by decide +kernel
theorem dX0_lookAhead_130 : decode cX0_lookAhead 130 = .ok (.ireturn, 1) := by decide +kernel
