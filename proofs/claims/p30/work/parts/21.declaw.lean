theorem dX7_init_0 : decode cX7_init 0 = .ok (.aload_n 0, 1) := by decide +kernel
theorem dX7_init_1 : decode cX7_init 1 = .ok (.invokespecial 1, 3) := by decide +kernel
theorem dX7_init_4 : decode cX7_init 4 = .ok (.aload_n 0, 1) := by decide +kernel
theorem dX7_init_5 : decode cX7_init 5 = .ok (.bipush 8, 2) := by decide +kernel
theorem dX7_init_7 : decode cX7_init 7 = .ok (.newarray .int, 2) := by decide +kernel
theorem dX7_init_9 : decode cX7_init 9 = .ok (.putfield 7, 3) := by decide +kernel
theorem dX7_init_12 : decode cX7_init 12 = .ok (.aload_n 0, 1) := by decide +kernel
theorem dX7_init_13 : decode cX7_init 13 = .ok (.bipush 120, 2) := by decide +kernel
theorem dX7_init_15 : decode cX7_init 15 = .ok (.newarray .int, 2) := by decide +kernel
theorem dX7_init_17 : decode cX7_init 17 = .ok (.putfield 13, 3) := by decide +kernel
theorem dX7_init_20 : decode cX7_init 20 = .ok (.aload_n 0, 1) := by decide +kernel
theorem dX7_init_21 : decode cX7_init 21 = .ok (.bipush 120, 2) := by decide +kernel
theorem dX7_init_23 : decode cX7_init 23 = .ok (.newarray .boolean, 2) := by decide +kernel
theorem dX7_init_25 : decode cX7_init 25 = .ok (.putfield 16, 3) := by decide +kernel
theorem dX7_init_28 : decode cX7_init 28 = .ok (.aload_n 0, 1) := by decide +kernel
theorem dX7_init_29 : decode cX7_init 29 = .ok (.bipush 120, 2) := by decide +kernel
theorem dX7_init_31 : decode cX7_init 31 = .ok (.newarray .boolean, 2) := by decide +kernel
theorem dX7_init_33 : decode cX7_init 33 = .ok (.putfield 20, 3) := by decide +kernel
theorem dX7_init_36 : decode cX7_init 36 = .ok (.return_, 1) := by decide +kernel
theorem dX7_copy_0 : decode cX7_copy 0 = .ok (.new 8, 3) := by decide +kernel
theorem dX7_copy_3 : decode cX7_copy 3 = .ok (.dup, 1) := by decide +kernel
theorem dX7_copy_4 : decode cX7_copy 4 = .ok (.invokespecial 23, 3) := by decide +kernel
theorem dX7_copy_7 : decode cX7_copy 7 = .ok (.astore_n 1, 1) := by decide +kernel
theorem dX7_copy_8 : decode cX7_copy 8 = .ok (.aload_n 0, 1) := by decide +kernel
theorem dX7_copy_9 : decode cX7_copy 9 = .ok (.getfield 7, 3) := by decide +kernel
theorem dX7_copy_12 : decode cX7_copy 12 = .ok (.iconst 0, 1) := by decide +kernel
theorem dX7_copy_13 : decode cX7_copy 13 = .ok (.aload_n 1, 1) := by decide +kernel
theorem dX7_copy_14 : decode cX7_copy 14 = .ok (.getfield 7, 3) := by decide +kernel
theorem dX7_copy_17 : decode cX7_copy 17 = .ok (.iconst 0, 1) := by decide +kernel
theorem dX7_copy_18 : decode cX7_copy 18 = .ok (.bipush 8, 2) := by decide +kernel
theorem dX7_copy_20 : decode cX7_copy 20 = .ok (.invokestatic 24, 3) := by decide +kernel
theorem dX7_copy_23 : decode cX7_copy 23 = .ok (.iconst 0, 1) := by decide +kernel
theorem dX7_copy_24 : decode cX7_copy 24 = .ok (.istore_n 2, 1) := by decide +kernel
theorem dX7_copy_25 : decode cX7_copy 25 = .ok (.iload_n 2, 1) := by decide +kernel
theorem dX7_copy_26 : decode cX7_copy 26 = .ok (.bipush 120, 2) := by decide +kernel
theorem dX7_copy_28 : decode cX7_copy 28 = .ok (.if_icmp .ge 32, 3) := by decide +kernel
theorem dX7_copy_31 : decode cX7_copy 31 = .ok (.aload_n 1, 1) := by decide +kernel
theorem dX7_copy_32 : decode cX7_copy 32 = .ok (.iload_n 2, 1) := by decide +kernel
theorem dX7_copy_33 : decode cX7_copy 33 = .ok (.aload_n 0, 1) := by decide +kernel
theorem dX7_copy_34 : decode cX7_copy 34 = .ok (.getfield 16, 3) := by decide +kernel
theorem dX7_copy_37 : decode cX7_copy 37 = .ok (.iload_n 2, 1) := by decide +kernel
theorem dX7_copy_38 : decode cX7_copy 38 = .ok (.baload, 1) := by decide +kernel
theorem dX7_copy_39 : decode cX7_copy 39 = .ok (.aload_n 0, 1) := by decide +kernel
theorem dX7_copy_40 : decode cX7_copy 40 = .ok (.getfield 20, 3) := by decide +kernel
theorem dX7_copy_43 : decode cX7_copy 43 = .ok (.iload_n 2, 1) := by decide +kernel
theorem dX7_copy_44 : decode cX7_copy 44 = .ok (.baload, 1) := by decide +kernel
theorem dX7_copy_45 : decode cX7_copy 45 = .ok (.aload_n 0, 1) := by decide +kernel
theorem dX7_copy_46 : decode cX7_copy 46 = .ok (.getfield 13, 3) := by decide +kernel
theorem dX7_copy_49 : decode cX7_copy 49 = .ok (.iload_n 2, 1) := by decide +kernel
theorem dX7_copy_50 : decode cX7_copy 50 = .ok (.iaload, 1) := by decide +kernel
theorem dX7_copy_51 : decode cX7_copy 51 = .ok (.invokevirtual 30, 3) := by decide +kernel
theorem dX7_copy_54 : decode cX7_copy 54 = .ok (.iinc 2 1, 3) := by decide +kernel
theorem dX7_copy_57 : decode cX7_copy 57 = .ok (.goto (-32), 3) := by decide +kernel
theorem dX7_copy_60 : decode cX7_copy 60 = .ok (.aload_n 1, 1) := by decide +kernel
theorem dX7_copy_61 : decode cX7_copy 61 = .ok (.areturn, 1) := by decide +kernel
theorem dX7_put_0 : decode cX7_put 0 = .ok (.aload_n 0, 1) := by decide +kernel
theorem dX7_put_1 : decode cX7_put 1 = .ok (.getfield 16, 3) := by decide +kernel
theorem dX7_put_4 : decode cX7_put 4 = .ok (.iload_n 1, 1) := by decide +kernel
theorem dX7_put_5 : decode cX7_put 5 = .ok (.iload_n 2, 1) := by decide +kernel
theorem dX7_put_6 : decode cX7_put 6 = .ok (.bastore, 1) := by decide +kernel
theorem dX7_put_7 : decode cX7_put 7 = .ok (.aload_n 0, 1) := by decide +kernel
theorem dX7_put_8 : decode cX7_put 8 = .ok (.getfield 20, 3) := by decide +kernel
theorem dX7_put_11 : decode cX7_put 11 = .ok (.iload_n 1, 1) := by decide +kernel
theorem dX7_put_12 : decode cX7_put 12 = .ok (.iload_n 3, 1) := by decide +kernel
theorem dX7_put_13 : decode cX7_put 13 = .ok (.bastore, 1) := by decide +kernel
theorem dX7_put_14 : decode cX7_put 14 = .ok (.aload_n 0, 1) := by decide +kernel
theorem dX7_put_15 : decode cX7_put 15 = .ok (.getfield 13, 3) := by decide +kernel
theorem dX7_put_18 : decode cX7_put 18 = .ok (.iload_n 1, 1) := by decide +kernel
theorem dX7_put_19 : decode cX7_put 19 = .ok (.iload 4, 2) := by decide +kernel
theorem dX7_put_21 : decode cX7_put 21 = .ok (.iastore, 1) := by decide +kernel
theorem dX7_put_22 : decode cX7_put 22 = .ok (.return_, 1) := by decide +kernel
theorem dX7_many_0 : decode cX7_many 0 = .ok (.iconst 0, 1) := by decide +kernel
theorem dX7_many_1 : decode cX7_many 1 = .ok (.istore_n 1, 1) := by decide +kernel
theorem dX7_many_2 : decode cX7_many 2 = .ok (.iconst 0, 1) := by decide +kernel
theorem dX7_many_3 : decode cX7_many 3 = .ok (.istore_n 2, 1) := by decide +kernel
theorem dX7_many_4 : decode cX7_many 4 = .ok (.iload_n 2, 1) := by decide +kernel
theorem dX7_many_5 : decode cX7_many 5 = .ok (.bipush 120, 2) := by decide +kernel
theorem dX7_many_7 : decode cX7_many 7 = .ok (.if_icmp .ge 56, 3) := by decide +kernel
theorem dX7_many_10 : decode cX7_many 10 = .ok (.iload_n 1, 1) := by decide +kernel
theorem dX7_many_11 : decode cX7_many 11 = .ok (.aload_n 0, 1) := by decide +kernel
theorem dX7_many_12 : decode cX7_many 12 = .ok (.getfield 16, 3) := by decide +kernel
theorem dX7_many_15 : decode cX7_many 15 = .ok (.iload_n 2, 1) := by decide +kernel
theorem dX7_many_16 : decode cX7_many 16 = .ok (.baload, 1) := by decide +kernel
theorem dX7_many_17 : decode cX7_many 17 = .ok (.ifCond .eq 7, 3) := by decide +kernel
theorem dX7_many_20 : decode cX7_many 20 = .ok (.iconst 1, 1) := by decide +kernel
theorem dX7_many_21 : decode cX7_many 21 = .ok (.goto 4, 3) := by decide +kernel
theorem dX7_many_24 : decode cX7_many 24 = .ok (.iconst 0, 1) := by decide +kernel
theorem dX7_many_25 : decode cX7_many 25 = .ok (.aload_n 0, 1) := by decide +kernel
theorem dX7_many_26 : decode cX7_many 26 = .ok (.getfield 20, 3) := by decide +kernel
theorem dX7_many_29 : decode cX7_many 29 = .ok (.iload_n 2, 1) := by decide +kernel
theorem dX7_many_30 : decode cX7_many 30 = .ok (.baload, 1) := by decide +kernel
theorem dX7_many_31 : decode cX7_many 31 = .ok (.ifCond .eq 7, 3) := by decide +kernel
theorem dX7_many_34 : decode cX7_many 34 = .ok (.iconst 1, 1) := by decide +kernel
theorem dX7_many_35 : decode cX7_many 35 = .ok (.goto 4, 3) := by decide +kernel
theorem dX7_many_38 : decode cX7_many 38 = .ok (.iconst 0, 1) := by decide +kernel
theorem dX7_many_39 : decode cX7_many 39 = .ok (.iadd, 1) := by decide +kernel
theorem dX7_many_40 : decode cX7_many 40 = .ok (.aload_n 0, 1) := by decide +kernel
theorem dX7_many_41 : decode cX7_many 41 = .ok (.getfield 13, 3) := by decide +kernel
theorem dX7_many_44 : decode cX7_many 44 = .ok (.iload_n 2, 1) := by decide +kernel
theorem dX7_many_45 : decode cX7_many 45 = .ok (.iaload, 1) := by decide +kernel
theorem dX7_many_46 : decode cX7_many 46 = .ok (.ifCond .le 7, 3) := by decide +kernel
theorem dX7_many_49 : decode cX7_many 49 = .ok (.iconst 1, 1) := by decide +kernel
theorem dX7_many_50 : decode cX7_many 50 = .ok (.goto 4, 3) := by decide +kernel
theorem dX7_many_53 : decode cX7_many 53 = .ok (.iconst 0, 1) := by decide +kernel
theorem dX7_many_54 : decode cX7_many 54 = .ok (.iadd, 1) := by decide +kernel
theorem dX7_many_55 : decode cX7_many 55 = .ok (.iadd, 1) := by decide +kernel
theorem dX7_many_56 : decode cX7_many 56 = .ok (.istore_n 1, 1) := by decide +kernel
theorem dX7_many_57 : decode cX7_many 57 = .ok (.iinc 2 1, 3) := by decide +kernel
theorem dX7_many_60 : decode cX7_many 60 = .ok (.goto (-56), 3) := by decide +kernel
theorem dX7_many_63 : decode cX7_many 63 = .ok (.iload_n 1, 1) := by decide +kernel
theorem dX7_many_64 : decode cX7_many 64 = .ok (.ireturn, 1) := by decide +kernel
theorem dX7_fault_0 : decode cX7_fault 0 = .ok (.iload_n 1, 1) := by decide +kernel
theorem dX7_fault_1 : decode cX7_fault 1 = .ok (.istore_n 2, 1) := by decide +kernel
theorem dX7_fault_2 : decode cX7_fault 2 = .ok (.iconst 0, 1) := by decide +kernel
theorem dX7_fault_3 : decode cX7_fault 3 = .ok (.istore_n 3, 1) := by decide +kernel
theorem dX7_fault_4 : decode cX7_fault 4 = .ok (.iload_n 3, 1) := by decide +kernel
theorem dX7_fault_5 : decode cX7_fault 5 = .ok (.bipush 120, 2) := by decide +kernel
theorem dX7_fault_7 : decode cX7_fault 7 = .ok (.if_icmp .ge 93, 3) := by decide +kernel
theorem dX7_fault_10 : decode cX7_fault 10 = .ok (.iconst 0, 1) := by decide +kernel
theorem dX7_fault_11 : decode cX7_fault 11 = .ok (.istore 4, 2) := by decide +kernel
theorem dX7_fault_13 : decode cX7_fault 13 = .ok (.iload 4, 2) := by decide +kernel
theorem dX7_fault_15 : decode cX7_fault 15 = .ok (.iconst 3, 1) := by decide +kernel
theorem dX7_fault_16 : decode cX7_fault 16 = .ok (.if_icmp .ge 78, 3) := by decide +kernel
theorem dX7_fault_19 : decode cX7_fault 19 = .ok (.iload 4, 2) := by decide +kernel
theorem dX7_fault_21 : decode cX7_fault 21 = .ok (.ifCond .ne 12, 3) := by decide +kernel
theorem dX7_fault_24 : decode cX7_fault 24 = .ok (.aload_n 0, 1) := by decide +kernel
theorem dX7_fault_25 : decode cX7_fault 25 = .ok (.getfield 16, 3) := by decide +kernel
theorem dX7_fault_28 : decode cX7_fault 28 = .ok (.iload_n 3, 1) := by decide +kernel
theorem dX7_fault_29 : decode cX7_fault 29 = .ok (.baload, 1) := by decide +kernel
theorem dX7_fault_30 : decode cX7_fault 30 = .ok (.goto 32, 3) := by decide +kernel
theorem dX7_fault_33 : decode cX7_fault 33 = .ok (.iload 4, 2) := by decide +kernel
theorem dX7_fault_35 : decode cX7_fault 35 = .ok (.iconst 1, 1) := by decide +kernel
theorem dX7_fault_36 : decode cX7_fault 36 = .ok (.if_icmp .ne 12, 3) := by decide +kernel
theorem dX7_fault_39 : decode cX7_fault 39 = .ok (.aload_n 0, 1) := by decide +kernel
theorem dX7_fault_40 : decode cX7_fault 40 = .ok (.getfield 20, 3) := by decide +kernel
theorem dX7_fault_43 : decode cX7_fault 43 = .ok (.iload_n 3, 1) := by decide +kernel
theorem dX7_fault_44 : decode cX7_fault 44 = .ok (.baload, 1) := by decide +kernel
theorem dX7_fault_45 : decode cX7_fault 45 = .ok (.goto 17, 3) := by decide +kernel
theorem dX7_fault_48 : decode cX7_fault 48 = .ok (.aload_n 0, 1) := by decide +kernel
theorem dX7_fault_49 : decode cX7_fault 49 = .ok (.getfield 13, 3) := by decide +kernel
theorem dX7_fault_52 : decode cX7_fault 52 = .ok (.iload_n 3, 1) := by decide +kernel
theorem dX7_fault_53 : decode cX7_fault 53 = .ok (.iaload, 1) := by decide +kernel
theorem dX7_fault_54 : decode cX7_fault 54 = .ok (.ifCond .le 7, 3) := by decide +kernel
theorem dX7_fault_57 : decode cX7_fault 57 = .ok (.iconst 1, 1) := by decide +kernel
theorem dX7_fault_58 : decode cX7_fault 58 = .ok (.goto 4, 3) := by decide +kernel
theorem dX7_fault_61 : decode cX7_fault 61 = .ok (.iconst 0, 1) := by decide +kernel
theorem dX7_fault_62 : decode cX7_fault 62 = .ok (.istore 5, 2) := by decide +kernel
theorem dX7_fault_64 : decode cX7_fault 64 = .ok (.iload 5, 2) := by decide +kernel
theorem dX7_fault_66 : decode cX7_fault 66 = .ok (.ifCond .ne 6, 3) := by decide +kernel
theorem dX7_fault_69 : decode cX7_fault 69 = .ok (.goto 19, 3) := by decide +kernel
theorem dX7_fault_72 : decode cX7_fault 72 = .ok (.iload_n 2, 1) := by decide +kernel
theorem dX7_fault_73 : decode cX7_fault 73 = .ok (.ifCond .ne 12, 3) := by decide +kernel
theorem dX7_fault_76 : decode cX7_fault 76 = .ok (.sipush 1000, 3) := by decide +kernel
theorem dX7_fault_79 : decode cX7_fault 79 = .ok (.iload_n 3, 1) := by decide +kernel
theorem dX7_fault_80 : decode cX7_fault 80 = .ok (.imul, 1) := by decide +kernel
theorem dX7_fault_81 : decode cX7_fault 81 = .ok (.iload 4, 2) := by decide +kernel
theorem dX7_fault_83 : decode cX7_fault 83 = .ok (.iadd, 1) := by decide +kernel
theorem dX7_fault_84 : decode cX7_fault 84 = .ok (.ireturn, 1) := by decide +kernel
theorem dX7_fault_85 : decode cX7_fault 85 = .ok (.iinc 2 (-1), 3) := by decide +kernel
theorem dX7_fault_88 : decode cX7_fault 88 = .ok (.iinc 4 1, 3) := by decide +kernel
theorem dX7_fault_91 : decode cX7_fault 91 = .ok (.goto (-78), 3) := by decide +kernel
theorem dX7_fault_94 : decode cX7_fault 94 = .ok (.iinc 3 1, 3) := by decide +kernel
theorem dX7_fault_97 : decode cX7_fault 97 = .ok (.goto (-93), 3) := by decide +kernel
theorem dX7_fault_100 : decode cX7_fault 100 = .ok (.iconst (-1), 1) := by decide +kernel
theorem dX7_fault_101 : decode cX7_fault 101 = .ok (.ireturn, 1) := by decide +kernel
theorem dX7_take_0 : decode cX7_take 0 = .ok (.iload_n 1, 1) := by decide +kernel
theorem dX7_take_1 : decode cX7_take 1 = .ok (.sipush 1000, 3) := by decide +kernel
theorem dX7_take_4 : decode cX7_take 4 = .ok (.idiv, 1) := by decide +kernel
theorem dX7_take_5 : decode cX7_take 5 = .ok (.istore_n 2, 1) := by decide +kernel
theorem dX7_take_6 : decode cX7_take 6 = .ok (.iload_n 1, 1) := by decide +kernel
theorem dX7_take_7 : decode cX7_take 7 = .ok (.sipush 1000, 3) := by decide +kernel
theorem dX7_take_10 : decode cX7_take 10 = .ok (.irem, 1) := by decide +kernel
theorem dX7_take_11 : decode cX7_take 11 = .ok (.istore_n 3, 1) := by decide +kernel
theorem dX7_take_12 : decode cX7_take 12 = .ok (.aload_n 0, 1) := by decide +kernel
theorem dX7_take_13 : decode cX7_take 13 = .ok (.iload_n 2, 1) := by decide +kernel
theorem dX7_take_14 : decode cX7_take 14 = .ok (.iload_n 3, 1) := by decide +kernel
theorem dX7_take_15 : decode cX7_take 15 = .ok (.ifCond .eq 16, 3) := by decide +kernel
theorem dX7_take_18 : decode cX7_take 18 = .ok (.aload_n 0, 1) := by decide +kernel
theorem dX7_take_19 : decode cX7_take 19 = .ok (.getfield 16, 3) := by decide +kernel
theorem dX7_take_22 : decode cX7_take 22 = .ok (.iload_n 2, 1) := by decide +kernel
theorem dX7_take_23 : decode cX7_take 23 = .ok (.baload, 1) := by decide +kernel
theorem dX7_take_24 : decode cX7_take 24 = .ok (.ifCond .eq 7, 3) := by decide +kernel
theorem dX7_take_27 : decode cX7_take 27 = .ok (.iconst 1, 1) := by decide +kernel
theorem dX7_take_28 : decode cX7_take 28 = .ok (.goto 4, 3) := by decide +kernel
theorem dX7_take_31 : decode cX7_take 31 = .ok (.iconst 0, 1) := by decide +kernel
theorem dX7_take_32 : decode cX7_take 32 = .ok (.iload_n 3, 1) := by decide +kernel
theorem dX7_take_33 : decode cX7_take 33 = .ok (.iconst 1, 1) := by decide +kernel
theorem dX7_take_34 : decode cX7_take 34 = .ok (.if_icmp .eq 16, 3) := by decide +kernel
theorem dX7_take_37 : decode cX7_take 37 = .ok (.aload_n 0, 1) := by decide +kernel
theorem dX7_take_38 : decode cX7_take 38 = .ok (.getfield 20, 3) := by decide +kernel
theorem dX7_take_41 : decode cX7_take 41 = .ok (.iload_n 2, 1) := by decide +kernel
theorem dX7_take_42 : decode cX7_take 42 = .ok (.baload, 1) := by decide +kernel
theorem dX7_take_43 : decode cX7_take 43 = .ok (.ifCond .eq 7, 3) := by decide +kernel
theorem dX7_take_46 : decode cX7_take 46 = .ok (.iconst 1, 1) := by decide +kernel
theorem dX7_take_47 : decode cX7_take 47 = .ok (.goto 4, 3) := by decide +kernel
theorem dX7_take_50 : decode cX7_take 50 = .ok (.iconst 0, 1) := by decide +kernel
theorem dX7_take_51 : decode cX7_take 51 = .ok (.iload_n 3, 1) := by decide +kernel
theorem dX7_take_52 : decode cX7_take 52 = .ok (.iconst 2, 1) := by decide +kernel
theorem dX7_take_53 : decode cX7_take 53 = .ok (.if_icmp .eq 12, 3) := by decide +kernel
theorem dX7_take_56 : decode cX7_take 56 = .ok (.aload_n 0, 1) := by decide +kernel
theorem dX7_take_57 : decode cX7_take 57 = .ok (.getfield 13, 3) := by decide +kernel
theorem dX7_take_60 : decode cX7_take 60 = .ok (.iload_n 2, 1) := by decide +kernel
theorem dX7_take_61 : decode cX7_take 61 = .ok (.iaload, 1) := by decide +kernel
theorem dX7_take_62 : decode cX7_take 62 = .ok (.goto 4, 3) := by decide +kernel
theorem dX7_take_65 : decode cX7_take 65 = .ok (.iconst 0, 1) := by decide +kernel
theorem dX7_take_66 : decode cX7_take 66 = .ok (.invokevirtual 30, 3) := by decide +kernel
theorem dX7_take_69 : decode cX7_take 69 = .ok (.return_, 1) := by decide +kernel
theorem dX7_part_0 : decode cX7_part 0 = .ok (.aload_n 0, 1) := by decide +kernel
theorem dX7_part_1 : decode cX7_part 1 = .ok (.invokevirtual 34, 3) := by decide +kernel
theorem dX7_part_4 : decode cX7_part 4 = .ok (.astore_n 2, 1) := by decide +kernel
theorem dX7_part_5 : decode cX7_part 5 = .ok (.aload_n 0, 1) := by decide +kernel
theorem dX7_part_6 : decode cX7_part 6 = .ok (.invokevirtual 38, 3) := by decide +kernel
theorem dX7_part_9 : decode cX7_part 9 = .ok (.iconst 1, 1) := by decide +kernel
theorem dX7_part_10 : decode cX7_part 10 = .ok (.isub, 1) := by decide +kernel
theorem dX7_part_11 : decode cX7_part 11 = .ok (.istore_n 3, 1) := by decide +kernel
theorem dX7_part_12 : decode cX7_part 12 = .ok (.iload_n 3, 1) := by decide +kernel
theorem dX7_part_13 : decode cX7_part 13 = .ok (.ifCond .lt 26, 3) := by decide +kernel
theorem dX7_part_16 : decode cX7_part 16 = .ok (.iload_n 1, 1) := by decide +kernel
theorem dX7_part_17 : decode cX7_part 17 = .ok (.iload_n 3, 1) := by decide +kernel
theorem dX7_part_18 : decode cX7_part 18 = .ok (.ishr, 1) := by decide +kernel
theorem dX7_part_19 : decode cX7_part 19 = .ok (.iconst 1, 1) := by decide +kernel
theorem dX7_part_20 : decode cX7_part 20 = .ok (.iand, 1) := by decide +kernel
theorem dX7_part_21 : decode cX7_part 21 = .ok (.ifCond .ne 12, 3) := by decide +kernel
theorem dX7_part_24 : decode cX7_part 24 = .ok (.aload_n 2, 1) := by decide +kernel
theorem dX7_part_25 : decode cX7_part 25 = .ok (.aload_n 0, 1) := by decide +kernel
theorem dX7_part_26 : decode cX7_part 26 = .ok (.iload_n 3, 1) := by decide +kernel
theorem dX7_part_27 : decode cX7_part 27 = .ok (.invokevirtual 42, 3) := by decide +kernel
theorem dX7_part_30 : decode cX7_part 30 = .ok (.invokevirtual 46, 3) := by decide +kernel
theorem dX7_part_33 : decode cX7_part 33 = .ok (.iinc 3 (-1), 3) := by decide +kernel
theorem dX7_part_36 : decode cX7_part 36 = .ok (.goto (-24), 3) := by decide +kernel
theorem dX7_part_39 : decode cX7_part 39 = .ok (.aload_n 2, 1) := by decide +kernel
theorem dX7_part_40 : decode cX7_part 40 = .ok (.areturn, 1) := by decide +kernel
theorem dX8_init_0 : decode cX8_init 0 = .ok (.aload_n 0, 1) := by decide +kernel
theorem dX8_init_1 : decode cX8_init 1 = .ok (.invokespecial 1, 3) := by decide +kernel
theorem dX8_init_4 : decode cX8_init 4 = .ok (.aload_n 0, 1) := by decide +kernel
theorem dX8_init_5 : decode cX8_init 5 = .ok (.bipush 120, 2) := by decide +kernel
theorem dX8_init_7 : decode cX8_init 7 = .ok (.newarray .int, 2) := by decide +kernel
theorem dX8_init_9 : decode cX8_init 9 = .ok (.putfield 7, 3) := by decide +kernel
theorem dX8_init_12 : decode cX8_init 12 = .ok (.aload_n 0, 1) := by decide +kernel
theorem dX8_init_13 : decode cX8_init 13 = .ok (.bipush 120, 2) := by decide +kernel
theorem dX8_init_15 : decode cX8_init 15 = .ok (.newarray .int, 2) := by decide +kernel
theorem dX8_init_17 : decode cX8_init 17 = .ok (.putfield 13, 3) := by decide +kernel
theorem dX8_init_20 : decode cX8_init 20 = .ok (.aload_n 0, 1) := by decide +kernel
theorem dX8_init_21 : decode cX8_init 21 = .ok (.bipush 120, 2) := by decide +kernel
theorem dX8_init_23 : decode cX8_init 23 = .ok (.newarray .int, 2) := by decide +kernel
theorem dX8_init_25 : decode cX8_init 25 = .ok (.putfield 16, 3) := by decide +kernel
theorem dX8_init_28 : decode cX8_init 28 = .ok (.aload_n 0, 1) := by decide +kernel
theorem dX8_init_29 : decode cX8_init 29 = .ok (.bipush 120, 2) := by decide +kernel
theorem dX8_init_31 : decode cX8_init 31 = .ok (.newarray .int, 2) := by decide +kernel
theorem dX8_init_33 : decode cX8_init 33 = .ok (.putfield 19, 3) := by decide +kernel
theorem dX8_init_36 : decode cX8_init 36 = .ok (.aload_n 0, 1) := by decide +kernel
theorem dX8_init_37 : decode cX8_init 37 = .ok (.bipush 120, 2) := by decide +kernel
theorem dX8_init_39 : decode cX8_init 39 = .ok (.newarray .int, 2) := by decide +kernel
theorem dX8_init_41 : decode cX8_init 41 = .ok (.putfield 22, 3) := by decide +kernel
theorem dX8_init_44 : decode cX8_init 44 = .ok (.aload_n 0, 1) := by decide +kernel
theorem dX8_init_45 : decode cX8_init 45 = .ok (.sipush 240, 3) := by decide +kernel
theorem dX8_init_48 : decode cX8_init 48 = .ok (.newarray .int, 2) := by decide +kernel
theorem dX8_init_50 : decode cX8_init 50 = .ok (.putfield 25, 3) := by decide +kernel
theorem dX8_init_53 : decode cX8_init 53 = .ok (.aload_n 0, 1) := by decide +kernel
theorem dX8_init_54 : decode cX8_init 54 = .ok (.sipush 400, 3) := by decide +kernel
theorem dX8_init_57 : decode cX8_init 57 = .ok (.newarray .boolean, 2) := by decide +kernel
theorem dX8_init_59 : decode cX8_init 59 = .ok (.putfield 28, 3) := by decide +kernel
theorem dX8_init_62 : decode cX8_init 62 = .ok (.aload_n 0, 1) := by decide +kernel
theorem dX8_init_63 : decode cX8_init 63 = .ok (.sipush 144, 3) := by decide +kernel
theorem dX8_init_66 : decode cX8_init 66 = .ok (.newarray .boolean, 2) := by decide +kernel
theorem dX8_init_68 : decode cX8_init 68 = .ok (.putfield 32, 3) := by decide +kernel
theorem dX8_init_71 : decode cX8_init 71 = .ok (.return_, 1) := by decide +kernel
theorem dX8_go_0 : decode cX8_go 0 = .ok (.aload_n 0, 1) := by decide +kernel
theorem dX8_go_1 : decode cX8_go 1 = .ok (.aload_n 1, 1) := by decide +kernel
theorem dX8_go_2 : decode cX8_go 2 = .ok (.putfield 35, 3) := by decide +kernel
theorem dX8_go_5 : decode cX8_go 5 = .ok (.aload_n 0, 1) := by decide +kernel
theorem dX8_go_6 : decode cX8_go 6 = .ok (.iconst 0, 1) := by decide +kernel
theorem dX8_go_7 : decode cX8_go 7 = .ok (.putfield 39, 3) := by decide +kernel
theorem dX8_go_10 : decode cX8_go 10 = .ok (.aload_n 0, 1) := by decide +kernel
theorem dX8_go_11 : decode cX8_go 11 = .ok (.iconst 0, 1) := by decide +kernel
theorem dX8_go_12 : decode cX8_go 12 = .ok (.putfield 43, 3) := by decide +kernel
theorem dX8_go_15 : decode cX8_go 15 = .ok (.aload_n 0, 1) := by decide +kernel
theorem dX8_go_16 : decode cX8_go 16 = .ok (.iconst 0, 1) := by decide +kernel
theorem dX8_go_17 : decode cX8_go 17 = .ok (.putfield 46, 3) := by decide +kernel
theorem dX8_go_20 : decode cX8_go 20 = .ok (.aload_n 0, 1) := by decide +kernel
theorem dX8_go_21 : decode cX8_go 21 = .ok (.iconst (-1), 1) := by decide +kernel
theorem dX8_go_22 : decode cX8_go 22 = .ok (.putfield 49, 3) := by decide +kernel
theorem dX8_go_25 : decode cX8_go 25 = .ok (.aload_n 0, 1) := by decide +kernel
theorem dX8_go_26 : decode cX8_go 26 = .ok (.iconst 0, 1) := by decide +kernel
theorem dX8_go_27 : decode cX8_go 27 = .ok (.putfield 52, 3) := by decide +kernel
theorem dX8_go_30 : decode cX8_go 30 = .ok (.aload_n 0, 1) := by decide +kernel
theorem dX8_go_31 : decode cX8_go 31 = .ok (.iconst 0, 1) := by decide +kernel
theorem dX8_go_32 : decode cX8_go 32 = .ok (.putfield 55, 3) := by decide +kernel
theorem dX8_go_35 : decode cX8_go 35 = .ok (.aload_n 0, 1) := by decide +kernel
theorem dX8_go_36 : decode cX8_go 36 = .ok (.sipush (-1000), 3) := by decide +kernel
theorem dX8_go_39 : decode cX8_go 39 = .ok (.putfield 58, 3) := by decide +kernel
theorem dX8_go_42 : decode cX8_go 42 = .ok (.aload_n 0, 1) := by decide +kernel
theorem dX8_go_43 : decode cX8_go 43 = .ok (.iconst 0, 1) := by decide +kernel
theorem dX8_go_44 : decode cX8_go 44 = .ok (.putfield 61, 3) := by decide +kernel
theorem dX8_go_47 : decode cX8_go 47 = .ok (.aload_n 0, 1) := by decide +kernel
theorem dX8_go_48 : decode cX8_go 48 = .ok (.iconst 1, 1) := by decide +kernel
theorem dX8_go_49 : decode cX8_go 49 = .ok (.putfield 64, 3) := by decide +kernel
theorem dX8_go_52 : decode cX8_go 52 = .ok (.iconst 0, 1) := by decide +kernel
theorem dX8_go_53 : decode cX8_go 53 = .ok (.istore_n 2, 1) := by decide +kernel
theorem dX8_go_54 : decode cX8_go 54 = .ok (.iload_n 2, 1) := by decide +kernel
theorem dX8_go_55 : decode cX8_go 55 = .ok (.sipush 400, 3) := by decide +kernel
theorem dX8_go_58 : decode cX8_go 58 = .ok (.if_icmp .ge 16, 3) := by decide +kernel
theorem dX8_go_61 : decode cX8_go 61 = .ok (.aload_n 0, 1) := by decide +kernel
theorem dX8_go_62 : decode cX8_go 62 = .ok (.getfield 28, 3) := by decide +kernel
theorem dX8_go_65 : decode cX8_go 65 = .ok (.iload_n 2, 1) := by decide +kernel
theorem dX8_go_66 : decode cX8_go 66 = .ok (.iconst 0, 1) := by decide +kernel
theorem dX8_go_67 : decode cX8_go 67 = .ok (.bastore, 1) := by decide +kernel
theorem dX8_go_68 : decode cX8_go 68 = .ok (.iinc 2 1, 3) := by decide +kernel
theorem dX8_go_71 : decode cX8_go 71 = .ok (.goto (-17), 3) := by decide +kernel
theorem dX8_go_74 : decode cX8_go 74 = .ok (.iconst 0, 1) := by decide +kernel
theorem dX8_go_75 : decode cX8_go 75 = .ok (.istore_n 2, 1) := by decide +kernel
theorem dX8_go_76 : decode cX8_go 76 = .ok (.iload_n 2, 1) := by decide +kernel
theorem dX8_go_77 : decode cX8_go 77 = .ok (.sipush 144, 3) := by decide +kernel
theorem dX8_go_80 : decode cX8_go 80 = .ok (.if_icmp .ge 16, 3) := by decide +kernel
theorem dX8_go_83 : decode cX8_go 83 = .ok (.aload_n 0, 1) := by decide +kernel
theorem dX8_go_84 : decode cX8_go 84 = .ok (.getfield 32, 3) := by decide +kernel
theorem dX8_go_87 : decode cX8_go 87 = .ok (.iload_n 2, 1) := by decide +kernel
theorem dX8_go_88 : decode cX8_go 88 = .ok (.iconst 0, 1) := by decide +kernel
theorem dX8_go_89 : decode cX8_go 89 = .ok (.bastore, 1) := by decide +kernel
theorem dX8_go_90 : decode cX8_go 90 = .ok (.iinc 2 1, 3) := by decide +kernel
theorem dX8_go_93 : decode cX8_go 93 = .ok (.goto (-17), 3) := by decide +kernel
theorem dX8_go_96 : decode cX8_go 96 = .ok (.iconst 0, 1) := by decide +kernel
theorem dX8_go_97 : decode cX8_go 97 = .ok (.istore_n 2, 1) := by decide +kernel
theorem dX8_go_98 : decode cX8_go 98 = .ok (.aload_n 0, 1) := by decide +kernel
theorem dX8_go_99 : decode cX8_go 99 = .ok (.getfield 46, 3) := by decide +kernel
theorem dX8_go_102 : decode cX8_go 102 = .ok (.aload_n 0, 1) := by decide +kernel
theorem dX8_go_103 : decode cX8_go 103 = .ok (.getfield 35, 3) := by decide +kernel
theorem dX8_go_106 : decode cX8_go 106 = .ok (.getfield 68, 3) := by decide +kernel
theorem dX8_go_109 : decode cX8_go 109 = .ok (.iconst 2, 1) := by decide +kernel
theorem dX8_go_110 : decode cX8_go 110 = .ok (.iaload, 1) := by decide +kernel
theorem dX8_go_111 : decode cX8_go 111 = .ok (.if_icmp .ge 108, 3) := by decide +kernel
theorem dX8_go_114 : decode cX8_go 114 = .ok (.iload_n 2, 1) := by decide +kernel
theorem dX8_go_115 : decode cX8_go 115 = .ok (.ifCond .ne 104, 3) := by decide +kernel
theorem dX8_go_118 : decode cX8_go 118 = .ok (.aload_n 0, 1) := by decide +kernel
theorem dX8_go_119 : decode cX8_go 119 = .ok (.invokevirtual 73, 3) := by decide +kernel
theorem dX8_go_122 : decode cX8_go 122 = .ok (.aload_n 0, 1) := by decide +kernel
theorem dX8_go_123 : decode cX8_go 123 = .ok (.getfield 52, 3) := by decide +kernel
theorem dX8_go_126 : decode cX8_go 126 = .ok (.aload_n 0, 1) := by decide +kernel
theorem dX8_go_127 : decode cX8_go 127 = .ok (.getfield 35, 3) := by decide +kernel
theorem dX8_go_130 : decode cX8_go 130 = .ok (.getfield 68, 3) := by decide +kernel
theorem dX8_go_133 : decode cX8_go 133 = .ok (.iconst 1, 1) := by decide +kernel
theorem dX8_go_134 : decode cX8_go 134 = .ok (.iaload, 1) := by decide +kernel
theorem dX8_go_135 : decode cX8_go 135 = .ok (.if_icmp .ne 7, 3) := by decide +kernel
theorem dX8_go_138 : decode cX8_go 138 = .ok (.iconst 1, 1) := by decide +kernel
theorem dX8_go_139 : decode cX8_go 139 = .ok (.goto 4, 3) := by decide +kernel
theorem dX8_go_142 : decode cX8_go 142 = .ok (.iconst 0, 1) := by decide +kernel
theorem dX8_go_143 : decode cX8_go 143 = .ok (.istore_n 2, 1) := by decide +kernel
theorem dX8_go_144 : decode cX8_go 144 = .ok (.aload_n 0, 1) := by decide +kernel
theorem dX8_go_145 : decode cX8_go 145 = .ok (.getfield 46, 3) := by decide +kernel
theorem dX8_go_148 : decode cX8_go 148 = .ok (.iconst 1, 1) := by decide +kernel
theorem dX8_go_149 : decode cX8_go 149 = .ok (.iadd, 1) := by decide +kernel
theorem dX8_go_150 : decode cX8_go 150 = .ok (.istore_n 3, 1) := by decide +kernel
theorem dX8_go_151 : decode cX8_go 151 = .ok (.iload_n 3, 1) := by decide +kernel
theorem dX8_go_152 : decode cX8_go 152 = .ok (.sipush 400, 3) := by decide +kernel
theorem dX8_go_155 : decode cX8_go 155 = .ok (.if_icmp .ge 28, 3) := by decide +kernel
theorem dX8_go_158 : decode cX8_go 158 = .ok (.iload_n 2, 1) := by decide +kernel
theorem dX8_go_159 : decode cX8_go 159 = .ok (.ifCond .eq 16, 3) := by decide +kernel
theorem dX8_go_162 : decode cX8_go 162 = .ok (.aload_n 0, 1) := by decide +kernel
theorem dX8_go_163 : decode cX8_go 163 = .ok (.getfield 28, 3) := by decide +kernel
theorem dX8_go_166 : decode cX8_go 166 = .ok (.iload_n 3, 1) := by decide +kernel
theorem dX8_go_167 : decode cX8_go 167 = .ok (.baload, 1) := by decide +kernel
theorem dX8_go_168 : decode cX8_go 168 = .ok (.ifCond .ne 7, 3) := by decide +kernel
theorem dX8_go_171 : decode cX8_go 171 = .ok (.iconst 1, 1) := by decide +kernel
theorem dX8_go_172 : decode cX8_go 172 = .ok (.goto 4, 3) := by decide +kernel
theorem dX8_go_175 : decode cX8_go 175 = .ok (.iconst 0, 1) := by decide +kernel
theorem dX8_go_176 : decode cX8_go 176 = .ok (.istore_n 2, 1) := by decide +kernel
theorem dX8_go_177 : decode cX8_go 177 = .ok (.iinc 3 1, 3) := by decide +kernel
theorem dX8_go_180 : decode cX8_go 180 = .ok (.goto (-29), 3) := by decide +kernel
theorem dX8_go_183 : decode cX8_go 183 = .ok (.aload_n 0, 1) := by decide +kernel
theorem dX8_go_184 : decode cX8_go 184 = .ok (.getfield 32, 3) := by decide +kernel
theorem dX8_go_187 : decode cX8_go 187 = .ok (.bipush 16, 2) := by decide +kernel
theorem dX8_go_189 : decode cX8_go 189 = .ok (.aload_n 0, 1) := by decide +kernel
theorem dX8_go_190 : decode cX8_go 190 = .ok (.getfield 52, 3) := by decide +kernel
theorem dX8_go_193 : decode cX8_go 193 = .ok (.imul, 1) := by decide +kernel
theorem dX8_go_194 : decode cX8_go 194 = .ok (.bipush 15, 2) := by decide +kernel
theorem dX8_go_196 : decode cX8_go 196 = .ok (.aload_n 0, 1) := by decide +kernel
theorem dX8_go_197 : decode cX8_go 197 = .ok (.getfield 43, 3) := by decide +kernel
theorem dX8_go_200 : decode cX8_go 200 = .ok (.invokestatic 76, 3) := by decide +kernel
theorem dX8_go_203 : decode cX8_go 203 = .ok (.iadd, 1) := by decide +kernel
theorem dX8_go_204 : decode cX8_go 204 = .ok (.iconst 1, 1) := by decide +kernel
theorem dX8_go_205 : decode cX8_go 205 = .ok (.bastore, 1) := by decide +kernel
theorem dX8_go_206 : decode cX8_go 206 = .ok (.aload_n 0, 1) := by decide +kernel
theorem dX8_go_207 : decode cX8_go 207 = .ok (.dup, 1) := by decide +kernel
theorem dX8_go_208 : decode cX8_go 208 = .ok (.getfield 46, 3) := by decide +kernel
theorem dX8_go_211 : decode cX8_go 211 = .ok (.iconst 1, 1) := by decide +kernel
theorem dX8_go_212 : decode cX8_go 212 = .ok (.iadd, 1) := by decide +kernel
theorem dX8_go_213 : decode cX8_go 213 = .ok (.putfield 46, 3) := by decide +kernel
theorem dX8_go_216 : decode cX8_go 216 = .ok (.goto (-118), 3) := by decide +kernel
theorem dX8_go_219 : decode cX8_go 219 = .ok (.aload_n 0, 1) := by decide +kernel
theorem dX8_go_220 : decode cX8_go 220 = .ok (.areturn, 1) := by decide +kernel
theorem dX8_send_0 : decode cX8_send 0 = .ok (.aload_n 0, 1) := by decide +kernel
theorem dX8_send_1 : decode cX8_send 1 = .ok (.getfield 39, 3) := by decide +kernel
theorem dX8_send_4 : decode cX8_send 4 = .ok (.bipush 120, 2) := by decide +kernel
theorem dX8_send_6 : decode cX8_send 6 = .ok (.if_icmp .ne 4, 3) := by decide +kernel
theorem dX8_send_9 : decode cX8_send 9 = .ok (.return_, 1) := by decide +kernel
theorem dX8_send_10 : decode cX8_send 10 = .ok (.aload_n 0, 1) := by decide +kernel
theorem dX8_send_11 : decode cX8_send 11 = .ok (.getfield 7, 3) := by decide +kernel
theorem dX8_send_14 : decode cX8_send 14 = .ok (.aload_n 0, 1) := by decide +kernel
theorem dX8_send_15 : decode cX8_send 15 = .ok (.getfield 39, 3) := by decide +kernel
theorem dX8_send_18 : decode cX8_send 18 = .ok (.aload_n 0, 1) := by decide +kernel
theorem dX8_send_19 : decode cX8_send 19 = .ok (.getfield 46, 3) := by decide +kernel
theorem dX8_send_22 : decode cX8_send 22 = .ok (.iastore, 1) := by decide +kernel
theorem dX8_send_23 : decode cX8_send 23 = .ok (.aload_n 0, 1) := by decide +kernel
theorem dX8_send_24 : decode cX8_send 24 = .ok (.getfield 13, 3) := by decide +kernel
theorem dX8_send_27 : decode cX8_send 27 = .ok (.aload_n 0, 1) := by decide +kernel
theorem dX8_send_28 : decode cX8_send 28 = .ok (.getfield 39, 3) := by decide +kernel
theorem dX8_send_31 : decode cX8_send 31 = .ok (.iload_n 1, 1) := by decide +kernel
theorem dX8_send_32 : decode cX8_send 32 = .ok (.iastore, 1) := by decide +kernel
theorem dX8_send_33 : decode cX8_send 33 = .ok (.aload_n 0, 1) := by decide +kernel
theorem dX8_send_34 : decode cX8_send 34 = .ok (.getfield 16, 3) := by decide +kernel
theorem dX8_send_37 : decode cX8_send 37 = .ok (.aload_n 0, 1) := by decide +kernel
theorem dX8_send_38 : decode cX8_send 38 = .ok (.getfield 39, 3) := by decide +kernel
theorem dX8_send_41 : decode cX8_send 41 = .ok (.iload_n 2, 1) := by decide +kernel
theorem dX8_send_42 : decode cX8_send 42 = .ok (.iastore, 1) := by decide +kernel
theorem dX8_send_43 : decode cX8_send 43 = .ok (.aload_n 0, 1) := by decide +kernel
theorem dX8_send_44 : decode cX8_send 44 = .ok (.getfield 19, 3) := by decide +kernel
theorem dX8_send_47 : decode cX8_send 47 = .ok (.aload_n 0, 1) := by decide +kernel
theorem dX8_send_48 : decode cX8_send 48 = .ok (.getfield 39, 3) := by decide +kernel
theorem dX8_send_51 : decode cX8_send 51 = .ok (.aload_n 0, 1) := by decide +kernel
theorem dX8_send_52 : decode cX8_send 52 = .ok (.getfield 35, 3) := by decide +kernel
theorem dX8_send_55 : decode cX8_send 55 = .ok (.getfield 82, 3) := by decide +kernel
theorem dX8_send_58 : decode cX8_send 58 = .ok (.aload_n 0, 1) := by decide +kernel
theorem dX8_send_59 : decode cX8_send 59 = .ok (.getfield 39, 3) := by decide +kernel
theorem dX8_send_62 : decode cX8_send 62 = .ok (.baload, 1) := by decide +kernel
theorem dX8_send_63 : decode cX8_send 63 = .ok (.ifCond .eq 7, 3) := by decide +kernel
theorem dX8_send_66 : decode cX8_send 66 = .ok (.iconst (-1), 1) := by decide +kernel
theorem dX8_send_67 : decode cX8_send 67 = .ok (.goto 30, 3) := by decide +kernel
theorem dX8_send_70 : decode cX8_send 70 = .ok (.aload_n 0, 1) := by decide +kernel
theorem dX8_send_71 : decode cX8_send 71 = .ok (.getfield 46, 3) := by decide +kernel
theorem dX8_send_74 : decode cX8_send 74 = .ok (.aload_n 0, 1) := by decide +kernel
theorem dX8_send_75 : decode cX8_send 75 = .ok (.getfield 35, 3) := by decide +kernel
theorem dX8_send_78 : decode cX8_send 78 = .ok (.getfield 68, 3) := by decide +kernel
theorem dX8_send_81 : decode cX8_send 81 = .ok (.iconst 3, 1) := by decide +kernel
theorem dX8_send_82 : decode cX8_send 82 = .ok (.iaload, 1) := by decide +kernel
theorem dX8_send_83 : decode cX8_send 83 = .ok (.iadd, 1) := by decide +kernel
theorem dX8_send_84 : decode cX8_send 84 = .ok (.aload_n 0, 1) := by decide +kernel
theorem dX8_send_85 : decode cX8_send 85 = .ok (.getfield 35, 3) := by decide +kernel
theorem dX8_send_88 : decode cX8_send 88 = .ok (.getfield 85, 3) := by decide +kernel
theorem dX8_send_91 : decode cX8_send 91 = .ok (.aload_n 0, 1) := by decide +kernel
theorem dX8_send_92 : decode cX8_send 92 = .ok (.getfield 39, 3) := by decide +kernel
theorem dX8_send_95 : decode cX8_send 95 = .ok (.iaload, 1) := by decide +kernel
theorem dX8_send_96 : decode cX8_send 96 = .ok (.iadd, 1) := by decide +kernel
theorem dX8_send_97 : decode cX8_send 97 = .ok (.iastore, 1) := by decide +kernel
theorem dX8_send_98 : decode cX8_send 98 = .ok (.aload_n 0, 1) := by decide +kernel
theorem dX8_send_99 : decode cX8_send 99 = .ok (.getfield 22, 3) := by decide +kernel
theorem dX8_send_102 : decode cX8_send 102 = .ok (.aload_n 0, 1) := by decide +kernel
theorem dX8_send_103 : decode cX8_send 103 = .ok (.getfield 39, 3) := by decide +kernel
theorem dX8_send_106 : decode cX8_send 106 = .ok (.aload_n 0, 1) := by decide +kernel
theorem dX8_send_107 : decode cX8_send 107 = .ok (.getfield 35, 3) := by decide +kernel
theorem dX8_send_110 : decode cX8_send 110 = .ok (.getfield 88, 3) := by decide +kernel
theorem dX8_send_113 : decode cX8_send 113 = .ok (.aload_n 0, 1) := by decide +kernel
theorem dX8_send_114 : decode cX8_send 114 = .ok (.getfield 39, 3) := by decide +kernel
theorem dX8_send_117 : decode cX8_send 117 = .ok (.baload, 1) := by decide +kernel
theorem dX8_send_118 : decode cX8_send 118 = .ok (.ifCond .eq 32, 3) := by decide +kernel
theorem dX8_send_121 : decode cX8_send 121 = .ok (.aload_n 0, 1) := by decide +kernel
theorem dX8_send_122 : decode cX8_send 122 = .ok (.getfield 35, 3) := by decide +kernel
theorem dX8_send_125 : decode cX8_send 125 = .ok (.getfield 82, 3) := by decide +kernel
theorem dX8_send_128 : decode cX8_send 128 = .ok (.aload_n 0, 1) := by decide +kernel
theorem dX8_send_129 : decode cX8_send 129 = .ok (.getfield 39, 3) := by decide +kernel
theorem dX8_send_132 : decode cX8_send 132 = .ok (.baload, 1) := by decide +kernel
theorem dX8_send_133 : decode cX8_send 133 = .ok (.ifCond .ne 17, 3) := by decide +kernel
theorem dX8_send_136 : decode cX8_send 136 = .ok (.aload_n 0, 1) := by decide +kernel
theorem dX8_send_137 : decode cX8_send 137 = .ok (.getfield 19, 3) := by decide +kernel
theorem dX8_send_140 : decode cX8_send 140 = .ok (.aload_n 0, 1) := by decide +kernel
theorem dX8_send_141 : decode cX8_send 141 = .ok (.getfield 39, 3) := by decide +kernel
theorem dX8_send_144 : decode cX8_send 144 = .ok (.iaload, 1) := by decide +kernel
theorem dX8_send_145 : decode cX8_send 145 = .ok (.iconst 1, 1) := by decide +kernel
theorem dX8_send_146 : decode cX8_send 146 = .ok (.iadd, 1) := by decide +kernel
theorem dX8_send_147 : decode cX8_send 147 = .ok (.goto 4, 3) := by decide +kernel
theorem dX8_send_150 : decode cX8_send 150 = .ok (.iconst (-1), 1) := by decide +kernel
theorem dX8_send_151 : decode cX8_send 151 = .ok (.iastore, 1) := by decide +kernel
theorem dX8_send_152 : decode cX8_send 152 = .ok (.aload_n 0, 1) := by decide +kernel
theorem dX8_send_153 : decode cX8_send 153 = .ok (.getfield 19, 3) := by decide +kernel
theorem dX8_send_156 : decode cX8_send 156 = .ok (.aload_n 0, 1) := by decide +kernel
theorem dX8_send_157 : decode cX8_send 157 = .ok (.getfield 39, 3) := by decide +kernel
theorem dX8_send_160 : decode cX8_send 160 = .ok (.iaload, 1) := by decide +kernel
theorem dX8_send_161 : decode cX8_send 161 = .ok (.ifCond .lt 18, 3) := by decide +kernel
theorem dX8_send_164 : decode cX8_send 164 = .ok (.aload_n 0, 1) := by decide +kernel
theorem dX8_send_165 : decode cX8_send 165 = .ok (.getfield 28, 3) := by decide +kernel
theorem dX8_send_168 : decode cX8_send 168 = .ok (.aload_n 0, 1) := by decide +kernel
theorem dX8_send_169 : decode cX8_send 169 = .ok (.getfield 19, 3) := by decide +kernel
theorem dX8_send_172 : decode cX8_send 172 = .ok (.aload_n 0, 1) := by decide +kernel
theorem dX8_send_173 : decode cX8_send 173 = .ok (.getfield 39, 3) := by decide +kernel
theorem dX8_send_176 : decode cX8_send 176 = .ok (.iaload, 1) := by decide +kernel
theorem dX8_send_177 : decode cX8_send 177 = .ok (.iconst 1, 1) := by decide +kernel
theorem dX8_send_178 : decode cX8_send 178 = .ok (.bastore, 1) := by decide +kernel
theorem dX8_send_179 : decode cX8_send 179 = .ok (.aload_n 0, 1) := by decide +kernel
theorem dX8_send_180 : decode cX8_send 180 = .ok (.getfield 22, 3) := by decide +kernel
theorem dX8_send_183 : decode cX8_send 183 = .ok (.aload_n 0, 1) := by decide +kernel
theorem dX8_send_184 : decode cX8_send 184 = .ok (.getfield 39, 3) := by decide +kernel
theorem dX8_send_187 : decode cX8_send 187 = .ok (.iaload, 1) := by decide +kernel
theorem dX8_send_188 : decode cX8_send 188 = .ok (.ifCond .lt 18, 3) := by decide +kernel
theorem dX8_send_191 : decode cX8_send 191 = .ok (.aload_n 0, 1) := by decide +kernel
theorem dX8_send_192 : decode cX8_send 192 = .ok (.getfield 28, 3) := by decide +kernel
theorem dX8_send_195 : decode cX8_send 195 = .ok (.aload_n 0, 1) := by decide +kernel
theorem dX8_send_196 : decode cX8_send 196 = .ok (.getfield 22, 3) := by decide +kernel
theorem dX8_send_199 : decode cX8_send 199 = .ok (.aload_n 0, 1) := by decide +kernel
theorem dX8_send_200 : decode cX8_send 200 = .ok (.getfield 39, 3) := by decide +kernel
theorem dX8_send_203 : decode cX8_send 203 = .ok (.iaload, 1) := by decide +kernel
theorem dX8_send_204 : decode cX8_send 204 = .ok (.iconst 1, 1) := by decide +kernel
theorem dX8_send_205 : decode cX8_send 205 = .ok (.bastore, 1) := by decide +kernel
theorem dX8_send_206 : decode cX8_send 206 = .ok (.aload_n 0, 1) := by decide +kernel
theorem dX8_send_207 : decode cX8_send 207 = .ok (.dup, 1) := by decide +kernel
theorem dX8_send_208 : decode cX8_send 208 = .ok (.getfield 39, 3) := by decide +kernel
theorem dX8_send_211 : decode cX8_send 211 = .ok (.iconst 1, 1) := by decide +kernel
theorem dX8_send_212 : decode cX8_send 212 = .ok (.iadd, 1) := by decide +kernel
theorem dX8_send_213 : decode cX8_send 213 = .ok (.putfield 39, 3) := by decide +kernel
theorem dX8_send_216 : decode cX8_send 216 = .ok (.return_, 1) := by decide +kernel
theorem dX8_tick_0 : decode cX8_tick 0 = .ok (.aload_n 0, 1) := by decide +kernel
theorem dX8_tick_1 : decode cX8_tick 1 = .ok (.getfield 39, 3) := by decide +kernel
theorem dX8_tick_4 : decode cX8_tick 4 = .ok (.istore_n 1, 1) := by decide +kernel
theorem dX8_tick_5 : decode cX8_tick 5 = .ok (.iconst 0, 1) := by decide +kernel
theorem dX8_tick_6 : decode cX8_tick 6 = .ok (.istore_n 2, 1) := by decide +kernel
theorem dX8_tick_7 : decode cX8_tick 7 = .ok (.iload_n 2, 1) := by decide +kernel
theorem dX8_tick_8 : decode cX8_tick 8 = .ok (.iload_n 1, 1) := by decide +kernel
theorem dX8_tick_9 : decode cX8_tick 9 = .ok (.if_icmp .ge 82, 3) := by decide +kernel
theorem dX8_tick_12 : decode cX8_tick 12 = .ok (.aload_n 0, 1) := by decide +kernel
theorem dX8_tick_13 : decode cX8_tick 13 = .ok (.getfield 28, 3) := by decide +kernel
theorem dX8_tick_16 : decode cX8_tick 16 = .ok (.aload_n 0, 1) := by decide +kernel
theorem dX8_tick_17 : decode cX8_tick 17 = .ok (.getfield 46, 3) := by decide +kernel
theorem dX8_tick_20 : decode cX8_tick 20 = .ok (.baload, 1) := by decide +kernel
theorem dX8_tick_21 : decode cX8_tick 21 = .ok (.ifCond .eq 70, 3) := by decide +kernel
theorem dX8_tick_24 : decode cX8_tick 24 = .ok (.aload_n 0, 1) := by decide +kernel
theorem dX8_tick_25 : decode cX8_tick 25 = .ok (.getfield 19, 3) := by decide +kernel
theorem dX8_tick_28 : decode cX8_tick 28 = .ok (.iload_n 2, 1) := by decide +kernel
theorem dX8_tick_29 : decode cX8_tick 29 = .ok (.iaload, 1) := by decide +kernel
theorem dX8_tick_30 : decode cX8_tick 30 = .ok (.aload_n 0, 1) := by decide +kernel
theorem dX8_tick_31 : decode cX8_tick 31 = .ok (.getfield 46, 3) := by decide +kernel
theorem dX8_tick_34 : decode cX8_tick 34 = .ok (.if_icmp .eq 19, 3) := by decide +kernel
theorem dX8_tick_37 : decode cX8_tick 37 = .ok (.aload_n 0, 1) := by decide +kernel
theorem dX8_tick_38 : decode cX8_tick 38 = .ok (.getfield 22, 3) := by decide +kernel
theorem dX8_tick_41 : decode cX8_tick 41 = .ok (.iload_n 2, 1) := by decide +kernel
theorem dX8_tick_42 : decode cX8_tick 42 = .ok (.iaload, 1) := by decide +kernel
theorem dX8_tick_43 : decode cX8_tick 43 = .ok (.aload_n 0, 1) := by decide +kernel
theorem dX8_tick_44 : decode cX8_tick 44 = .ok (.getfield 46, 3) := by decide +kernel
theorem dX8_tick_47 : decode cX8_tick 47 = .ok (.if_icmp .eq 6, 3) := by decide +kernel
theorem dX8_tick_50 : decode cX8_tick 50 = .ok (.goto 35, 3) := by decide +kernel
theorem dX8_tick_53 : decode cX8_tick 53 = .ok (.aload_n 0, 1) := by decide +kernel
theorem dX8_tick_54 : decode cX8_tick 54 = .ok (.getfield 13, 3) := by decide +kernel
theorem dX8_tick_57 : decode cX8_tick 57 = .ok (.iload_n 2, 1) := by decide +kernel
theorem dX8_tick_58 : decode cX8_tick 58 = .ok (.iaload, 1) := by decide +kernel
theorem dX8_tick_59 : decode cX8_tick 59 = .ok (.ifCond .ne 16, 3) := by decide +kernel
theorem dX8_tick_62 : decode cX8_tick 62 = .ok (.aload_n 0, 1) := by decide +kernel
theorem dX8_tick_63 : decode cX8_tick 63 = .ok (.aload_n 0, 1) := by decide +kernel
theorem dX8_tick_64 : decode cX8_tick 64 = .ok (.getfield 16, 3) := by decide +kernel
theorem dX8_tick_67 : decode cX8_tick 67 = .ok (.iload_n 2, 1) := by decide +kernel
theorem dX8_tick_68 : decode cX8_tick 68 = .ok (.iaload, 1) := by decide +kernel
theorem dX8_tick_69 : decode cX8_tick 69 = .ok (.invokevirtual 91, 3) := by decide +kernel
theorem dX8_tick_72 : decode cX8_tick 72 = .ok (.goto 13, 3) := by decide +kernel
theorem dX8_tick_75 : decode cX8_tick 75 = .ok (.aload_n 0, 1) := by decide +kernel
theorem dX8_tick_76 : decode cX8_tick 76 = .ok (.aload_n 0, 1) := by decide +kernel
theorem dX8_tick_77 : decode cX8_tick 77 = .ok (.getfield 16, 3) := by decide +kernel
theorem dX8_tick_80 : decode cX8_tick 80 = .ok (.iload_n 2, 1) := by decide +kernel
theorem dX8_tick_81 : decode cX8_tick 81 = .ok (.iaload, 1) := by decide +kernel
theorem dX8_tick_82 : decode cX8_tick 82 = .ok (.invokevirtual 95, 3) := by decide +kernel
theorem dX8_tick_85 : decode cX8_tick 85 = .ok (.iinc 2 1, 3) := by decide +kernel
theorem dX8_tick_88 : decode cX8_tick 88 = .ok (.goto (-81), 3) := by decide +kernel
theorem dX8_tick_91 : decode cX8_tick 91 = .ok (.aload_n 0, 1) := by decide +kernel
theorem dX8_tick_92 : decode cX8_tick 92 = .ok (.getfield 35, 3) := by decide +kernel
theorem dX8_tick_95 : decode cX8_tick 95 = .ok (.getfield 68, 3) := by decide +kernel
theorem dX8_tick_98 : decode cX8_tick 98 = .ok (.iconst 0, 1) := by decide +kernel
theorem dX8_tick_99 : decode cX8_tick 99 = .ok (.iaload, 1) := by decide +kernel
theorem dX8_tick_100 : decode cX8_tick 100 = .ok (.ifCond .ne 35, 3) := by decide +kernel
theorem dX8_tick_103 : decode cX8_tick 103 = .ok (.aload_n 0, 1) := by decide +kernel
theorem dX8_tick_104 : decode cX8_tick 104 = .ok (.getfield 52, 3) := by decide +kernel
theorem dX8_tick_107 : decode cX8_tick 107 = .ok (.aload_n 0, 1) := by decide +kernel
theorem dX8_tick_108 : decode cX8_tick 108 = .ok (.getfield 35, 3) := by decide +kernel
theorem dX8_tick_111 : decode cX8_tick 111 = .ok (.getfield 68, 3) := by decide +kernel
theorem dX8_tick_114 : decode cX8_tick 114 = .ok (.iconst 1, 1) := by decide +kernel
theorem dX8_tick_115 : decode cX8_tick 115 = .ok (.iaload, 1) := by decide +kernel
theorem dX8_tick_116 : decode cX8_tick 116 = .ok (.if_icmp .ge 19, 3) := by decide +kernel
theorem dX8_tick_119 : decode cX8_tick 119 = .ok (.aload_n 0, 1) := by decide +kernel
theorem dX8_tick_120 : decode cX8_tick 120 = .ok (.iconst 0, 1) := by decide +kernel
theorem dX8_tick_121 : decode cX8_tick 121 = .ok (.aload_n 0, 1) := by decide +kernel
theorem dX8_tick_122 : decode cX8_tick 122 = .ok (.dup, 1) := by decide +kernel
theorem dX8_tick_123 : decode cX8_tick 123 = .ok (.getfield 52, 3) := by decide +kernel
theorem dX8_tick_126 : decode cX8_tick 126 = .ok (.dup_x1, 1) := by decide +kernel
theorem dX8_tick_127 : decode cX8_tick 127 = .ok (.iconst 1, 1) := by decide +kernel
theorem dX8_tick_128 : decode cX8_tick 128 = .ok (.iadd, 1) := by decide +kernel
theorem dX8_tick_129 : decode cX8_tick 129 = .ok (.putfield 52, 3) := by decide +kernel
theorem dX8_tick_132 : decode cX8_tick 132 = .ok (.invokevirtual 98, 3) := by decide +kernel
theorem dX8_tick_135 : decode cX8_tick 135 = .ok (.aload_n 0, 1) := by decide +kernel
theorem dX8_tick_136 : decode cX8_tick 136 = .ok (.getfield 35, 3) := by decide +kernel
theorem dX8_tick_139 : decode cX8_tick 139 = .ok (.getfield 68, 3) := by decide +kernel
theorem dX8_tick_142 : decode cX8_tick 142 = .ok (.iconst 0, 1) := by decide +kernel
theorem dX8_tick_143 : decode cX8_tick 143 = .ok (.iaload, 1) := by decide +kernel
theorem dX8_tick_144 : decode cX8_tick 144 = .ok (.iconst 1, 1) := by decide +kernel
theorem dX8_tick_145 : decode cX8_tick 145 = .ok (.if_icmp .ne 69, 3) := by decide +kernel
theorem dX8_tick_148 : decode cX8_tick 148 = .ok (.aload_n 0, 1) := by decide +kernel
theorem dX8_tick_149 : decode cX8_tick 149 = .ok (.getfield 52, 3) := by decide +kernel
theorem dX8_tick_152 : decode cX8_tick 152 = .ok (.aload_n 0, 1) := by decide +kernel
theorem dX8_tick_153 : decode cX8_tick 153 = .ok (.getfield 35, 3) := by decide +kernel
theorem dX8_tick_156 : decode cX8_tick 156 = .ok (.getfield 68, 3) := by decide +kernel
theorem dX8_tick_159 : decode cX8_tick 159 = .ok (.iconst 1, 1) := by decide +kernel
theorem dX8_tick_160 : decode cX8_tick 160 = .ok (.iaload, 1) := by decide +kernel
theorem dX8_tick_161 : decode cX8_tick 161 = .ok (.if_icmp .ge 53, 3) := by decide +kernel
theorem dX8_tick_164 : decode cX8_tick 164 = .ok (.aload_n 0, 1) := by decide +kernel
theorem dX8_tick_165 : decode cX8_tick 165 = .ok (.getfield 64, 3) := by decide +kernel
theorem dX8_tick_168 : decode cX8_tick 168 = .ok (.ifCond .ne 24, 3) := by decide +kernel
theorem dX8_tick_171 : decode cX8_tick 171 = .ok (.aload_n 0, 1) := by decide +kernel
theorem dX8_tick_172 : decode cX8_tick 172 = .ok (.getfield 46, 3) := by decide +kernel
theorem dX8_tick_175 : decode cX8_tick 175 = .ok (.aload_n 0, 1) := by decide +kernel
theorem dX8_tick_176 : decode cX8_tick 176 = .ok (.getfield 58, 3) := by decide +kernel
theorem dX8_tick_179 : decode cX8_tick 179 = .ok (.isub, 1) := by decide +kernel
theorem dX8_tick_180 : decode cX8_tick 180 = .ok (.aload_n 0, 1) := by decide +kernel
theorem dX8_tick_181 : decode cX8_tick 181 = .ok (.getfield 35, 3) := by decide +kernel
theorem dX8_tick_184 : decode cX8_tick 184 = .ok (.getfield 68, 3) := by decide +kernel
theorem dX8_tick_187 : decode cX8_tick 187 = .ok (.iconst 4, 1) := by decide +kernel
theorem dX8_tick_188 : decode cX8_tick 188 = .ok (.iaload, 1) := by decide +kernel
theorem dX8_tick_189 : decode cX8_tick 189 = .ok (.if_icmp .lt 25, 3) := by decide +kernel
theorem dX8_tick_192 : decode cX8_tick 192 = .ok (.aload_n 0, 1) := by decide +kernel
theorem dX8_tick_193 : decode cX8_tick 193 = .ok (.iconst 0, 1) := by decide +kernel
theorem dX8_tick_194 : decode cX8_tick 194 = .ok (.aload_n 0, 1) := by decide +kernel
theorem dX8_tick_195 : decode cX8_tick 195 = .ok (.getfield 52, 3) := by decide +kernel
theorem dX8_tick_198 : decode cX8_tick 198 = .ok (.invokevirtual 98, 3) := by decide +kernel
theorem dX8_tick_201 : decode cX8_tick 201 = .ok (.aload_n 0, 1) := by decide +kernel
theorem dX8_tick_202 : decode cX8_tick 202 = .ok (.aload_n 0, 1) := by decide +kernel
theorem dX8_tick_203 : decode cX8_tick 203 = .ok (.getfield 46, 3) := by decide +kernel
theorem dX8_tick_206 : decode cX8_tick 206 = .ok (.putfield 58, 3) := by decide +kernel
theorem dX8_tick_209 : decode cX8_tick 209 = .ok (.aload_n 0, 1) := by decide +kernel
theorem dX8_tick_210 : decode cX8_tick 210 = .ok (.iconst 0, 1) := by decide +kernel
theorem dX8_tick_211 : decode cX8_tick 211 = .ok (.putfield 64, 3) := by decide +kernel
theorem dX8_tick_214 : decode cX8_tick 214 = .ok (.aload_n 0, 1) := by decide +kernel
theorem dX8_tick_215 : decode cX8_tick 215 = .ok (.getfield 35, 3) := by decide +kernel
theorem dX8_tick_218 : decode cX8_tick 218 = .ok (.getfield 68, 3) := by decide +kernel
theorem dX8_tick_221 : decode cX8_tick 221 = .ok (.iconst 0, 1) := by decide +kernel
theorem dX8_tick_222 : decode cX8_tick 222 = .ok (.iaload, 1) := by decide +kernel
theorem dX8_tick_223 : decode cX8_tick 223 = .ok (.iconst 2, 1) := by decide +kernel
theorem dX8_tick_224 : decode cX8_tick 224 = .ok (.if_icmp .ne 7, 3) := by decide +kernel
theorem dX8_tick_227 : decode cX8_tick 227 = .ok (.aload_n 0, 1) := by decide +kernel
theorem dX8_tick_228 : decode cX8_tick 228 = .ok (.invokevirtual 102, 3) := by decide +kernel
theorem dX8_tick_231 : decode cX8_tick 231 = .ok (.return_, 1) := by decide +kernel
theorem dX8_window_0 : decode cX8_window 0 = .ok (.aload_n 0, 1) := by decide +kernel
theorem dX8_window_1 : decode cX8_window 1 = .ok (.getfield 52, 3) := by decide +kernel
theorem dX8_window_4 : decode cX8_window 4 = .ok (.aload_n 0, 1) := by decide +kernel
theorem dX8_window_5 : decode cX8_window 5 = .ok (.getfield 55, 3) := by decide +kernel
theorem dX8_window_8 : decode cX8_window 8 = .ok (.if_icmp .ge 40, 3) := by decide +kernel
theorem dX8_window_11 : decode cX8_window 11 = .ok (.aload_n 0, 1) := by decide +kernel
theorem dX8_window_12 : decode cX8_window 12 = .ok (.getfield 46, 3) := by decide +kernel
theorem dX8_window_15 : decode cX8_window 15 = .ok (.aload_n 0, 1) := by decide +kernel
theorem dX8_window_16 : decode cX8_window 16 = .ok (.getfield 58, 3) := by decide +kernel
theorem dX8_window_19 : decode cX8_window 19 = .ok (.isub, 1) := by decide +kernel
theorem dX8_window_20 : decode cX8_window 20 = .ok (.aload_n 0, 1) := by decide +kernel
theorem dX8_window_21 : decode cX8_window 21 = .ok (.getfield 35, 3) := by decide +kernel
theorem dX8_window_24 : decode cX8_window 24 = .ok (.getfield 68, 3) := by decide +kernel
theorem dX8_window_27 : decode cX8_window 27 = .ok (.iconst 4, 1) := by decide +kernel
theorem dX8_window_28 : decode cX8_window 28 = .ok (.iaload, 1) := by decide +kernel
theorem dX8_window_29 : decode cX8_window 29 = .ok (.if_icmp .lt 19, 3) := by decide +kernel
theorem dX8_window_32 : decode cX8_window 32 = .ok (.aload_n 0, 1) := by decide +kernel
theorem dX8_window_33 : decode cX8_window 33 = .ok (.aload_n 0, 1) := by decide +kernel
theorem dX8_window_34 : decode cX8_window 34 = .ok (.getfield 46, 3) := by decide +kernel
theorem dX8_window_37 : decode cX8_window 37 = .ok (.putfield 58, 3) := by decide +kernel
theorem dX8_window_40 : decode cX8_window 40 = .ok (.aload_n 0, 1) := by decide +kernel
theorem dX8_window_41 : decode cX8_window 41 = .ok (.aload_n 0, 1) := by decide +kernel
theorem dX8_window_42 : decode cX8_window 42 = .ok (.getfield 52, 3) := by decide +kernel
theorem dX8_window_45 : decode cX8_window 45 = .ok (.putfield 55, 3) := by decide +kernel
theorem dX8_window_48 : decode cX8_window 48 = .ok (.aload_n 0, 1) := by decide +kernel
theorem dX8_window_49 : decode cX8_window 49 = .ok (.getfield 55, 3) := by decide +kernel
theorem dX8_window_52 : decode cX8_window 52 = .ok (.aload_n 0, 1) := by decide +kernel
theorem dX8_window_53 : decode cX8_window 53 = .ok (.getfield 52, 3) := by decide +kernel
theorem dX8_window_56 : decode cX8_window 56 = .ok (.aload_n 0, 1) := by decide +kernel
theorem dX8_window_57 : decode cX8_window 57 = .ok (.getfield 35, 3) := by decide +kernel
theorem dX8_window_60 : decode cX8_window 60 = .ok (.getfield 68, 3) := by decide +kernel
theorem dX8_window_63 : decode cX8_window 63 = .ok (.iconst 5, 1) := by decide +kernel
theorem dX8_window_64 : decode cX8_window 64 = .ok (.iaload, 1) := by decide +kernel
theorem dX8_window_65 : decode cX8_window 65 = .ok (.iadd, 1) := by decide +kernel
theorem dX8_window_66 : decode cX8_window 66 = .ok (.if_icmp .ge 19, 3) := by decide +kernel
theorem dX8_window_69 : decode cX8_window 69 = .ok (.aload_n 0, 1) := by decide +kernel
theorem dX8_window_70 : decode cX8_window 70 = .ok (.getfield 55, 3) := by decide +kernel
theorem dX8_window_73 : decode cX8_window 73 = .ok (.aload_n 0, 1) := by decide +kernel
theorem dX8_window_74 : decode cX8_window 74 = .ok (.getfield 35, 3) := by decide +kernel
theorem dX8_window_77 : decode cX8_window 77 = .ok (.getfield 68, 3) := by decide +kernel
theorem dX8_window_80 : decode cX8_window 80 = .ok (.iconst 1, 1) := by decide +kernel
theorem dX8_window_81 : decode cX8_window 81 = .ok (.iaload, 1) := by decide +kernel
theorem dX8_window_82 : decode cX8_window 82 = .ok (.if_icmp .lt 4, 3) := by decide +kernel
theorem dX8_window_85 : decode cX8_window 85 = .ok (.return_, 1) := by decide +kernel
theorem dX8_window_86 : decode cX8_window 86 = .ok (.aload_n 0, 1) := by decide +kernel
theorem dX8_window_87 : decode cX8_window 87 = .ok (.iconst 0, 1) := by decide +kernel
theorem dX8_window_88 : decode cX8_window 88 = .ok (.aload_n 0, 1) := by decide +kernel
theorem dX8_window_89 : decode cX8_window 89 = .ok (.getfield 55, 3) := by decide +kernel
theorem dX8_window_92 : decode cX8_window 92 = .ok (.invokevirtual 98, 3) := by decide +kernel
theorem dX8_window_95 : decode cX8_window 95 = .ok (.aload_n 0, 1) := by decide +kernel
theorem dX8_window_96 : decode cX8_window 96 = .ok (.getfield 55, 3) := by decide +kernel
theorem dX8_window_99 : decode cX8_window 99 = .ok (.aload_n 0, 1) := by decide +kernel
theorem dX8_window_100 : decode cX8_window 100 = .ok (.getfield 52, 3) := by decide +kernel
theorem dX8_window_103 : decode cX8_window 103 = .ok (.if_icmp .ne 11, 3) := by decide +kernel
theorem dX8_window_106 : decode cX8_window 106 = .ok (.aload_n 0, 1) := by decide +kernel
theorem dX8_window_107 : decode cX8_window 107 = .ok (.aload_n 0, 1) := by decide +kernel
theorem dX8_window_108 : decode cX8_window 108 = .ok (.getfield 46, 3) := by decide +kernel
theorem dX8_window_111 : decode cX8_window 111 = .ok (.putfield 58, 3) := by decide +kernel
theorem dX8_window_114 : decode cX8_window 114 = .ok (.aload_n 0, 1) := by decide +kernel
theorem dX8_window_115 : decode cX8_window 115 = .ok (.dup, 1) := by decide +kernel
theorem dX8_window_116 : decode cX8_window 116 = .ok (.getfield 55, 3) := by decide +kernel
theorem dX8_window_119 : decode cX8_window 119 = .ok (.iconst 1, 1) := by decide +kernel
theorem dX8_window_120 : decode cX8_window 120 = .ok (.iadd, 1) := by decide +kernel
theorem dX8_window_121 : decode cX8_window 121 = .ok (.putfield 55, 3) := by decide +kernel
theorem dX8_window_124 : decode cX8_window 124 = .ok (.return_, 1) := by decide +kernel
theorem dX8_data_0 : decode cX8_data 0 = .ok (.aload_n 0, 1) := by decide +kernel
theorem dX8_data_1 : decode cX8_data 1 = .ok (.getfield 35, 3) := by decide +kernel
theorem dX8_data_4 : decode cX8_data 4 = .ok (.getfield 68, 3) := by decide +kernel
theorem dX8_data_7 : decode cX8_data 7 = .ok (.iconst 0, 1) := by decide +kernel
theorem dX8_data_8 : decode cX8_data 8 = .ok (.iaload, 1) := by decide +kernel
theorem dX8_data_9 : decode cX8_data 9 = .ok (.iconst 1, 1) := by decide +kernel
theorem dX8_data_10 : decode cX8_data 10 = .ok (.if_icmp .ne 7, 3) := by decide +kernel
theorem dX8_data_13 : decode cX8_data 13 = .ok (.iconst 2, 1) := by decide +kernel
theorem dX8_data_14 : decode cX8_data 14 = .ok (.goto 13, 3) := by decide +kernel
theorem dX8_data_17 : decode cX8_data 17 = .ok (.aload_n 0, 1) := by decide +kernel
theorem dX8_data_18 : decode cX8_data 18 = .ok (.getfield 35, 3) := by decide +kernel
theorem dX8_data_21 : decode cX8_data 21 = .ok (.getfield 68, 3) := by decide +kernel
theorem dX8_data_24 : decode cX8_data 24 = .ok (.bipush 6, 2) := by decide +kernel
theorem dX8_data_26 : decode cX8_data 26 = .ok (.iaload, 1) := by decide +kernel
theorem dX8_data_27 : decode cX8_data 27 = .ok (.istore_n 2, 1) := by decide +kernel
theorem dX8_data_28 : decode cX8_data 28 = .ok (.aload_n 0, 1) := by decide +kernel
theorem dX8_data_29 : decode cX8_data 29 = .ok (.getfield 35, 3) := by decide +kernel
theorem dX8_data_32 : decode cX8_data 32 = .ok (.getfield 68, 3) := by decide +kernel
theorem dX8_data_35 : decode cX8_data 35 = .ok (.iconst 0, 1) := by decide +kernel
theorem dX8_data_36 : decode cX8_data 36 = .ok (.iaload, 1) := by decide +kernel
theorem dX8_data_37 : decode cX8_data 37 = .ok (.ifCond .eq 15, 3) := by decide +kernel
theorem dX8_data_40 : decode cX8_data 40 = .ok (.iload_n 1, 1) := by decide +kernel
theorem dX8_data_41 : decode cX8_data 41 = .ok (.iload_n 2, 1) := by decide +kernel
theorem dX8_data_42 : decode cX8_data 42 = .ok (.irem, 1) := by decide +kernel
theorem dX8_data_43 : decode cX8_data 43 = .ok (.aload_n 0, 1) := by decide +kernel
theorem dX8_data_44 : decode cX8_data 44 = .ok (.getfield 61, 3) := by decide +kernel
theorem dX8_data_47 : decode cX8_data 47 = .ok (.iload_n 2, 1) := by decide +kernel
theorem dX8_data_48 : decode cX8_data 48 = .ok (.irem, 1) := by decide +kernel
theorem dX8_data_49 : decode cX8_data 49 = .ok (.if_icmp .ne 64, 3) := by decide +kernel
theorem dX8_data_52 : decode cX8_data 52 = .ok (.aload_n 0, 1) := by decide +kernel
theorem dX8_data_53 : decode cX8_data 53 = .ok (.getfield 25, 3) := by decide +kernel
theorem dX8_data_56 : decode cX8_data 56 = .ok (.aload_n 0, 1) := by decide +kernel
theorem dX8_data_57 : decode cX8_data 57 = .ok (.dup, 1) := by decide +kernel
theorem dX8_data_58 : decode cX8_data 58 = .ok (.getfield 43, 3) := by decide +kernel
theorem dX8_data_61 : decode cX8_data 61 = .ok (.dup_x1, 1) := by decide +kernel
theorem dX8_data_62 : decode cX8_data 62 = .ok (.iconst 1, 1) := by decide +kernel
theorem dX8_data_63 : decode cX8_data 63 = .ok (.iadd, 1) := by decide +kernel
theorem dX8_data_64 : decode cX8_data 64 = .ok (.putfield 43, 3) := by decide +kernel
theorem dX8_data_67 : decode cX8_data 67 = .ok (.iload_n 1, 1) := by decide +kernel
theorem dX8_data_68 : decode cX8_data 68 = .ok (.iastore, 1) := by decide +kernel
theorem dX8_data_69 : decode cX8_data 69 = .ok (.aload_n 0, 1) := by decide +kernel
theorem dX8_data_70 : decode cX8_data 70 = .ok (.getfield 35, 3) := by decide +kernel
theorem dX8_data_73 : decode cX8_data 73 = .ok (.getfield 68, 3) := by decide +kernel
theorem dX8_data_76 : decode cX8_data 76 = .ok (.iconst 0, 1) := by decide +kernel
theorem dX8_data_77 : decode cX8_data 77 = .ok (.iaload, 1) := by decide +kernel
theorem dX8_data_78 : decode cX8_data 78 = .ok (.ifCond .le 13, 3) := by decide +kernel
theorem dX8_data_81 : decode cX8_data 81 = .ok (.aload_n 0, 1) := by decide +kernel
theorem dX8_data_82 : decode cX8_data 82 = .ok (.dup, 1) := by decide +kernel
theorem dX8_data_83 : decode cX8_data 83 = .ok (.getfield 61, 3) := by decide +kernel
theorem dX8_data_86 : decode cX8_data 86 = .ok (.iconst 1, 1) := by decide +kernel
theorem dX8_data_87 : decode cX8_data 87 = .ok (.iadd, 1) := by decide +kernel
theorem dX8_data_88 : decode cX8_data 88 = .ok (.putfield 61, 3) := by decide +kernel
theorem dX8_data_91 : decode cX8_data 91 = .ok (.aload_n 0, 1) := by decide +kernel
theorem dX8_data_92 : decode cX8_data 92 = .ok (.getfield 49, 3) := by decide +kernel
theorem dX8_data_95 : decode cX8_data 95 = .ok (.ifCond .ge 18, 3) := by decide +kernel
theorem dX8_data_98 : decode cX8_data 98 = .ok (.aload_n 0, 1) := by decide +kernel
theorem dX8_data_99 : decode cX8_data 99 = .ok (.invokevirtual 105, 3) := by decide +kernel
theorem dX8_data_102 : decode cX8_data 102 = .ok (.ifCond .eq 11, 3) := by decide +kernel
theorem dX8_data_105 : decode cX8_data 105 = .ok (.aload_n 0, 1) := by decide +kernel
theorem dX8_data_106 : decode cX8_data 106 = .ok (.aload_n 0, 1) := by decide +kernel
theorem dX8_data_107 : decode cX8_data 107 = .ok (.getfield 46, 3) := by decide +kernel
theorem dX8_data_110 : decode cX8_data 110 = .ok (.putfield 49, 3) := by decide +kernel
theorem dX8_data_113 : decode cX8_data 113 = .ok (.aload_n 0, 1) := by decide +kernel
theorem dX8_data_114 : decode cX8_data 114 = .ok (.getfield 35, 3) := by decide +kernel
theorem dX8_data_117 : decode cX8_data 117 = .ok (.getfield 68, 3) := by decide +kernel
theorem dX8_data_120 : decode cX8_data 120 = .ok (.iconst 0, 1) := by decide +kernel
theorem dX8_data_121 : decode cX8_data 121 = .ok (.iaload, 1) := by decide +kernel
theorem dX8_data_122 : decode cX8_data 122 = .ok (.ifCond .le 33, 3) := by decide +kernel
theorem dX8_data_125 : decode cX8_data 125 = .ok (.aload_n 0, 1) := by decide +kernel
theorem dX8_data_126 : decode cX8_data 126 = .ok (.iconst 1, 1) := by decide +kernel
theorem dX8_data_127 : decode cX8_data 127 = .ok (.aload_n 0, 1) := by decide +kernel
theorem dX8_data_128 : decode cX8_data 128 = .ok (.getfield 35, 3) := by decide +kernel
theorem dX8_data_131 : decode cX8_data 131 = .ok (.getfield 68, 3) := by decide +kernel
theorem dX8_data_134 : decode cX8_data 134 = .ok (.iconst 0, 1) := by decide +kernel
theorem dX8_data_135 : decode cX8_data 135 = .ok (.iaload, 1) := by decide +kernel
theorem dX8_data_136 : decode cX8_data 136 = .ok (.iconst 1, 1) := by decide +kernel
theorem dX8_data_137 : decode cX8_data 137 = .ok (.if_icmp .ne 9, 3) := by decide +kernel
theorem dX8_data_140 : decode cX8_data 140 = .ok (.iload_n 1, 1) := by decide +kernel
theorem dX8_data_141 : decode cX8_data 141 = .ok (.iconst 2, 1) := by decide +kernel
theorem dX8_data_142 : decode cX8_data 142 = .ok (.irem, 1) := by decide +kernel
theorem dX8_data_143 : decode cX8_data 143 = .ok (.goto 9, 3) := by decide +kernel
theorem dX8_data_146 : decode cX8_data 146 = .ok (.aload_n 0, 1) := by decide +kernel
theorem dX8_data_147 : decode cX8_data 147 = .ok (.getfield 61, 3) := by decide +kernel
theorem dX8_data_150 : decode cX8_data 150 = .ok (.iload_n 2, 1) := by decide +kernel
theorem dX8_data_151 : decode cX8_data 151 = .ok (.irem, 1) := by decide +kernel
theorem dX8_data_152 : decode cX8_data 152 = .ok (.invokevirtual 98, 3) := by decide +kernel
theorem dX8_data_155 : decode cX8_data 155 = .ok (.return_, 1) := by decide +kernel
theorem dX8_hasAll_0 : decode cX8_hasAll 0 = .ok (.iconst 0, 1) := by decide +kernel
theorem dX8_hasAll_1 : decode cX8_hasAll 1 = .ok (.istore_n 1, 1) := by decide +kernel
theorem dX8_hasAll_2 : decode cX8_hasAll 2 = .ok (.iconst 0, 1) := by decide +kernel
theorem dX8_hasAll_3 : decode cX8_hasAll 3 = .ok (.istore_n 2, 1) := by decide +kernel
theorem dX8_hasAll_4 : decode cX8_hasAll 4 = .ok (.iload_n 2, 1) := by decide +kernel
theorem dX8_hasAll_5 : decode cX8_hasAll 5 = .ok (.aload_n 0, 1) := by decide +kernel
theorem dX8_hasAll_6 : decode cX8_hasAll 6 = .ok (.getfield 43, 3) := by decide +kernel
theorem dX8_hasAll_9 : decode cX8_hasAll 9 = .ok (.if_icmp .ge 20, 3) := by decide +kernel
theorem dX8_hasAll_12 : decode cX8_hasAll 12 = .ok (.iload_n 1, 1) := by decide +kernel
theorem dX8_hasAll_13 : decode cX8_hasAll 13 = .ok (.iconst 1, 1) := by decide +kernel
theorem dX8_hasAll_14 : decode cX8_hasAll 14 = .ok (.aload_n 0, 1) := by decide +kernel
theorem dX8_hasAll_15 : decode cX8_hasAll 15 = .ok (.getfield 25, 3) := by decide +kernel
theorem dX8_hasAll_18 : decode cX8_hasAll 18 = .ok (.iload_n 2, 1) := by decide +kernel
theorem dX8_hasAll_19 : decode cX8_hasAll 19 = .ok (.iaload, 1) := by decide +kernel
theorem dX8_hasAll_20 : decode cX8_hasAll 20 = .ok (.ishl, 1) := by decide +kernel
theorem dX8_hasAll_21 : decode cX8_hasAll 21 = .ok (.ior, 1) := by decide +kernel
theorem dX8_hasAll_22 : decode cX8_hasAll 22 = .ok (.istore_n 1, 1) := by decide +kernel
theorem dX8_hasAll_23 : decode cX8_hasAll 23 = .ok (.iinc 2 1, 3) := by decide +kernel
theorem dX8_hasAll_26 : decode cX8_hasAll 26 = .ok (.goto (-22), 3) := by decide +kernel
theorem dX8_hasAll_29 : decode cX8_hasAll 29 = .ok (.iload_n 1, 1) := by decide +kernel
theorem dX8_hasAll_30 : decode cX8_hasAll 30 = .ok (.invokestatic 109, 3) := by decide +kernel
theorem dX8_hasAll_33 : decode cX8_hasAll 33 = .ok (.aload_n 0, 1) := by decide +kernel
theorem dX8_hasAll_34 : decode cX8_hasAll 34 = .ok (.getfield 35, 3) := by decide +kernel
theorem dX8_hasAll_37 : decode cX8_hasAll 37 = .ok (.getfield 68, 3) := by decide +kernel
theorem dX8_hasAll_40 : decode cX8_hasAll 40 = .ok (.iconst 1, 1) := by decide +kernel
theorem dX8_hasAll_41 : decode cX8_hasAll 41 = .ok (.iaload, 1) := by decide +kernel
theorem dX8_hasAll_42 : decode cX8_hasAll 42 = .ok (.if_icmp .ne 7, 3) := by decide +kernel
theorem dX8_hasAll_45 : decode cX8_hasAll 45 = .ok (.iconst 1, 1) := by decide +kernel
theorem dX8_hasAll_46 : decode cX8_hasAll 46 = .ok (.goto 4, 3) := by decide +kernel
theorem dX8_hasAll_49 : decode cX8_hasAll 49 = .ok (.iconst 0, 1) := by decide +kernel
theorem dX8_hasAll_50 : decode cX8_hasAll 50 = .ok (.ireturn, 1) := by decide +kernel
theorem dX8_answer_0 : decode cX8_answer 0 = .ok (.aload_n 0, 1) := by decide +kernel
theorem dX8_answer_1 : decode cX8_answer 1 = .ok (.getfield 35, 3) := by decide +kernel
theorem dX8_answer_4 : decode cX8_answer 4 = .ok (.getfield 68, 3) := by decide +kernel
theorem dX8_answer_7 : decode cX8_answer 7 = .ok (.iconst 0, 1) := by decide +kernel
theorem dX8_answer_8 : decode cX8_answer 8 = .ok (.iaload, 1) := by decide +kernel
theorem dX8_answer_9 : decode cX8_answer 9 = .ok (.iconst 1, 1) := by decide +kernel
theorem dX8_answer_10 : decode cX8_answer 10 = .ok (.if_icmp .ne 46, 3) := by decide +kernel
theorem dX8_answer_13 : decode cX8_answer 13 = .ok (.aload_n 0, 1) := by decide +kernel
theorem dX8_answer_14 : decode cX8_answer 14 = .ok (.getfield 52, 3) := by decide +kernel
theorem dX8_answer_17 : decode cX8_answer 17 = .ok (.aload_n 0, 1) := by decide +kernel
theorem dX8_answer_18 : decode cX8_answer 18 = .ok (.getfield 35, 3) := by decide +kernel
theorem dX8_answer_21 : decode cX8_answer 21 = .ok (.getfield 68, 3) := by decide +kernel
theorem dX8_answer_24 : decode cX8_answer 24 = .ok (.iconst 1, 1) := by decide +kernel
theorem dX8_answer_25 : decode cX8_answer 25 = .ok (.iaload, 1) := by decide +kernel
theorem dX8_answer_26 : decode cX8_answer 26 = .ok (.if_icmp .eq 13, 3) := by decide +kernel
theorem dX8_answer_29 : decode cX8_answer 29 = .ok (.iload_n 1, 1) := by decide +kernel
theorem dX8_answer_30 : decode cX8_answer 30 = .ok (.aload_n 0, 1) := by decide +kernel
theorem dX8_answer_31 : decode cX8_answer 31 = .ok (.getfield 52, 3) := by decide +kernel
theorem dX8_answer_34 : decode cX8_answer 34 = .ok (.iconst 1, 1) := by decide +kernel
theorem dX8_answer_35 : decode cX8_answer 35 = .ok (.iand, 1) := by decide +kernel
theorem dX8_answer_36 : decode cX8_answer 36 = .ok (.if_icmp .eq 4, 3) := by decide +kernel
theorem dX8_answer_39 : decode cX8_answer 39 = .ok (.return_, 1) := by decide +kernel
theorem dX8_answer_40 : decode cX8_answer 40 = .ok (.aload_n 0, 1) := by decide +kernel
theorem dX8_answer_41 : decode cX8_answer 41 = .ok (.dup, 1) := by decide +kernel
theorem dX8_answer_42 : decode cX8_answer 42 = .ok (.getfield 52, 3) := by decide +kernel
theorem dX8_answer_45 : decode cX8_answer 45 = .ok (.iconst 1, 1) := by decide +kernel
theorem dX8_answer_46 : decode cX8_answer 46 = .ok (.iadd, 1) := by decide +kernel
theorem dX8_answer_47 : decode cX8_answer 47 = .ok (.putfield 52, 3) := by decide +kernel
theorem dX8_answer_50 : decode cX8_answer 50 = .ok (.aload_n 0, 1) := by decide +kernel
theorem dX8_answer_51 : decode cX8_answer 51 = .ok (.iconst 1, 1) := by decide +kernel
theorem dX8_answer_52 : decode cX8_answer 52 = .ok (.putfield 64, 3) := by decide +kernel
theorem dX8_answer_55 : decode cX8_answer 55 = .ok (.return_, 1) := by decide +kernel
theorem dX8_answer_56 : decode cX8_answer 56 = .ok (.iconst 1, 1) := by decide +kernel
theorem dX8_answer_57 : decode cX8_answer 57 = .ok (.istore_n 2, 1) := by decide +kernel
theorem dX8_answer_58 : decode cX8_answer 58 = .ok (.iload_n 2, 1) := by decide +kernel
theorem dX8_answer_59 : decode cX8_answer 59 = .ok (.aload_n 0, 1) := by decide +kernel
theorem dX8_answer_60 : decode cX8_answer 60 = .ok (.getfield 55, 3) := by decide +kernel
theorem dX8_answer_63 : decode cX8_answer 63 = .ok (.aload_n 0, 1) := by decide +kernel
theorem dX8_answer_64 : decode cX8_answer 64 = .ok (.getfield 52, 3) := by decide +kernel
theorem dX8_answer_67 : decode cX8_answer 67 = .ok (.isub, 1) := by decide +kernel
theorem dX8_answer_68 : decode cX8_answer 68 = .ok (.if_icmp .gt 30, 3) := by decide +kernel
theorem dX8_answer_71 : decode cX8_answer 71 = .ok (.aload_n 0, 1) := by decide +kernel
theorem dX8_answer_72 : decode cX8_answer 72 = .ok (.getfield 52, 3) := by decide +kernel
theorem dX8_answer_75 : decode cX8_answer 75 = .ok (.iload_n 2, 1) := by decide +kernel
theorem dX8_answer_76 : decode cX8_answer 76 = .ok (.iadd, 1) := by decide +kernel
theorem dX8_answer_77 : decode cX8_answer 77 = .ok (.aload_n 0, 1) := by decide +kernel
theorem dX8_answer_78 : decode cX8_answer 78 = .ok (.getfield 35, 3) := by decide +kernel
theorem dX8_answer_81 : decode cX8_answer 81 = .ok (.getfield 68, 3) := by decide +kernel
theorem dX8_answer_84 : decode cX8_answer 84 = .ok (.bipush 6, 2) := by decide +kernel
theorem dX8_answer_86 : decode cX8_answer 86 = .ok (.iaload, 1) := by decide +kernel
theorem dX8_answer_87 : decode cX8_answer 87 = .ok (.irem, 1) := by decide +kernel
theorem dX8_answer_88 : decode cX8_answer 88 = .ok (.iload_n 1, 1) := by decide +kernel
theorem dX8_answer_89 : decode cX8_answer 89 = .ok (.if_icmp .eq 9, 3) := by decide +kernel
theorem dX8_answer_92 : decode cX8_answer 92 = .ok (.iinc 2 1, 3) := by decide +kernel
theorem dX8_answer_95 : decode cX8_answer 95 = .ok (.goto (-37), 3) := by decide +kernel
theorem dX8_answer_98 : decode cX8_answer 98 = .ok (.iload_n 2, 1) := by decide +kernel
theorem dX8_answer_99 : decode cX8_answer 99 = .ok (.aload_n 0, 1) := by decide +kernel
theorem dX8_answer_100 : decode cX8_answer 100 = .ok (.getfield 55, 3) := by decide +kernel
theorem dX8_answer_103 : decode cX8_answer 103 = .ok (.aload_n 0, 1) := by decide +kernel
theorem dX8_answer_104 : decode cX8_answer 104 = .ok (.getfield 52, 3) := by decide +kernel
theorem dX8_answer_107 : decode cX8_answer 107 = .ok (.isub, 1) := by decide +kernel
theorem dX8_answer_108 : decode cX8_answer 108 = .ok (.if_icmp .le 4, 3) := by decide +kernel
theorem dX8_answer_111 : decode cX8_answer 111 = .ok (.return_, 1) := by decide +kernel
theorem dX8_answer_112 : decode cX8_answer 112 = .ok (.aload_n 0, 1) := by decide +kernel
theorem dX8_answer_113 : decode cX8_answer 113 = .ok (.dup, 1) := by decide +kernel
theorem dX8_answer_114 : decode cX8_answer 114 = .ok (.getfield 52, 3) := by decide +kernel
theorem dX8_answer_117 : decode cX8_answer 117 = .ok (.iload_n 2, 1) := by decide +kernel
theorem dX8_answer_118 : decode cX8_answer 118 = .ok (.iadd, 1) := by decide +kernel
theorem dX8_answer_119 : decode cX8_answer 119 = .ok (.putfield 52, 3) := by decide +kernel
theorem dX8_answer_122 : decode cX8_answer 122 = .ok (.aload_n 0, 1) := by decide +kernel
theorem dX8_answer_123 : decode cX8_answer 123 = .ok (.aload_n 0, 1) := by decide +kernel
theorem dX8_answer_124 : decode cX8_answer 124 = .ok (.getfield 46, 3) := by decide +kernel
theorem dX8_answer_127 : decode cX8_answer 127 = .ok (.putfield 58, 3) := by decide +kernel
theorem dX8_answer_130 : decode cX8_answer 130 = .ok (.return_, 1) := by decide +kernel
theorem dX8_breaks_0 : decode cX8_breaks 0 = .ok (.iload_n 1, 1) := by decide +kernel
theorem dX8_breaks_1 : decode cX8_breaks 1 = .ok (.ifCond .ne 16, 3) := by decide +kernel
theorem dX8_breaks_4 : decode cX8_breaks 4 = .ok (.aload_n 0, 1) := by decide +kernel
theorem dX8_breaks_5 : decode cX8_breaks 5 = .ok (.getfield 49, 3) := by decide +kernel
theorem dX8_breaks_8 : decode cX8_breaks 8 = .ok (.ifCond .ge 7, 3) := by decide +kernel
theorem dX8_breaks_11 : decode cX8_breaks 11 = .ok (.iconst 1, 1) := by decide +kernel
theorem dX8_breaks_12 : decode cX8_breaks 12 = .ok (.goto 4, 3) := by decide +kernel
theorem dX8_breaks_15 : decode cX8_breaks 15 = .ok (.iconst 0, 1) := by decide +kernel
theorem dX8_breaks_16 : decode cX8_breaks 16 = .ok (.ireturn, 1) := by decide +kernel
theorem dX8_breaks_17 : decode cX8_breaks 17 = .ok (.iload_n 1, 1) := by decide +kernel
theorem dX8_breaks_18 : decode cX8_breaks 18 = .ok (.iconst 3, 1) := by decide +kernel
theorem dX8_breaks_19 : decode cX8_breaks 19 = .ok (.if_icmp .ne 33, 3) := by decide +kernel
theorem dX8_breaks_22 : decode cX8_breaks 22 = .ok (.aload_n 0, 1) := by decide +kernel
theorem dX8_breaks_23 : decode cX8_breaks 23 = .ok (.getfield 49, 3) := by decide +kernel
theorem dX8_breaks_26 : decode cX8_breaks 26 = .ok (.ifCond .lt 20, 3) := by decide +kernel
theorem dX8_breaks_29 : decode cX8_breaks 29 = .ok (.aload_n 0, 1) := by decide +kernel
theorem dX8_breaks_30 : decode cX8_breaks 30 = .ok (.getfield 49, 3) := by decide +kernel
theorem dX8_breaks_33 : decode cX8_breaks 33 = .ok (.aload_n 0, 1) := by decide +kernel
theorem dX8_breaks_34 : decode cX8_breaks 34 = .ok (.getfield 35, 3) := by decide +kernel
theorem dX8_breaks_37 : decode cX8_breaks 37 = .ok (.getfield 68, 3) := by decide +kernel
theorem dX8_breaks_40 : decode cX8_breaks 40 = .ok (.bipush 7, 2) := by decide +kernel
theorem dX8_breaks_42 : decode cX8_breaks 42 = .ok (.iaload, 1) := by decide +kernel
theorem dX8_breaks_43 : decode cX8_breaks 43 = .ok (.if_icmp .le 7, 3) := by decide +kernel
theorem dX8_breaks_46 : decode cX8_breaks 46 = .ok (.iconst 1, 1) := by decide +kernel
theorem dX8_breaks_47 : decode cX8_breaks 47 = .ok (.goto 4, 3) := by decide +kernel
theorem dX8_breaks_50 : decode cX8_breaks 50 = .ok (.iconst 0, 1) := by decide +kernel
theorem dX8_breaks_51 : decode cX8_breaks 51 = .ok (.ireturn, 1) := by decide +kernel
theorem dX8_breaks_52 : decode cX8_breaks 52 = .ok (.iconst 0, 1) := by decide +kernel
theorem dX8_breaks_53 : decode cX8_breaks 53 = .ok (.istore_n 2, 1) := by decide +kernel
theorem dX8_breaks_54 : decode cX8_breaks 54 = .ok (.iload_n 2, 1) := by decide +kernel
theorem dX8_breaks_55 : decode cX8_breaks 55 = .ok (.aload_n 0, 1) := by decide +kernel
theorem dX8_breaks_56 : decode cX8_breaks 56 = .ok (.getfield 43, 3) := by decide +kernel
theorem dX8_breaks_59 : decode cX8_breaks 59 = .ok (.if_icmp .ge 62, 3) := by decide +kernel
theorem dX8_breaks_62 : decode cX8_breaks 62 = .ok (.iconst 0, 1) := by decide +kernel
theorem dX8_breaks_63 : decode cX8_breaks 63 = .ok (.istore_n 3, 1) := by decide +kernel
theorem dX8_breaks_64 : decode cX8_breaks 64 = .ok (.iload_n 3, 1) := by decide +kernel
theorem dX8_breaks_65 : decode cX8_breaks 65 = .ok (.iload_n 2, 1) := by decide +kernel
theorem dX8_breaks_66 : decode cX8_breaks 66 = .ok (.if_icmp .ge 49, 3) := by decide +kernel
theorem dX8_breaks_69 : decode cX8_breaks 69 = .ok (.iload_n 1, 1) := by decide +kernel
theorem dX8_breaks_70 : decode cX8_breaks 70 = .ok (.iconst 1, 1) := by decide +kernel
theorem dX8_breaks_71 : decode cX8_breaks 71 = .ok (.if_icmp .ne 21, 3) := by decide +kernel
theorem dX8_breaks_74 : decode cX8_breaks 74 = .ok (.aload_n 0, 1) := by decide +kernel
theorem dX8_breaks_75 : decode cX8_breaks 75 = .ok (.getfield 25, 3) := by decide +kernel
theorem dX8_breaks_78 : decode cX8_breaks 78 = .ok (.iload_n 3, 1) := by decide +kernel
theorem dX8_breaks_79 : decode cX8_breaks 79 = .ok (.iaload, 1) := by decide +kernel
theorem dX8_breaks_80 : decode cX8_breaks 80 = .ok (.aload_n 0, 1) := by decide +kernel
theorem dX8_breaks_81 : decode cX8_breaks 81 = .ok (.getfield 25, 3) := by decide +kernel
theorem dX8_breaks_84 : decode cX8_breaks 84 = .ok (.iload_n 2, 1) := by decide +kernel
theorem dX8_breaks_85 : decode cX8_breaks 85 = .ok (.iaload, 1) := by decide +kernel
theorem dX8_breaks_86 : decode cX8_breaks 86 = .ok (.if_icmp .ne 23, 3) := by decide +kernel
theorem dX8_breaks_89 : decode cX8_breaks 89 = .ok (.goto 18, 3) := by decide +kernel
theorem dX8_breaks_92 : decode cX8_breaks 92 = .ok (.aload_n 0, 1) := by decide +kernel
theorem dX8_breaks_93 : decode cX8_breaks 93 = .ok (.getfield 25, 3) := by decide +kernel
theorem dX8_breaks_96 : decode cX8_breaks 96 = .ok (.iload_n 3, 1) := by decide +kernel
theorem dX8_breaks_97 : decode cX8_breaks 97 = .ok (.iaload, 1) := by decide +kernel
theorem dX8_breaks_98 : decode cX8_breaks 98 = .ok (.aload_n 0, 1) := by decide +kernel
theorem dX8_breaks_99 : decode cX8_breaks 99 = .ok (.getfield 25, 3) := by decide +kernel
theorem dX8_breaks_102 : decode cX8_breaks 102 = .ok (.iload_n 2, 1) := by decide +kernel
theorem dX8_breaks_103 : decode cX8_breaks 103 = .ok (.iaload, 1) := by decide +kernel
theorem dX8_breaks_104 : decode cX8_breaks 104 = .ok (.if_icmp .le 5, 3) := by decide +kernel
theorem dX8_breaks_107 : decode cX8_breaks 107 = .ok (.iconst 1, 1) := by decide +kernel
theorem dX8_breaks_108 : decode cX8_breaks 108 = .ok (.ireturn, 1) := by decide +kernel
theorem dX8_breaks_109 : decode cX8_breaks 109 = .ok (.iinc 3 1, 3) := by decide +kernel
theorem dX8_breaks_112 : decode cX8_breaks 112 = .ok (.goto (-48), 3) := by decide +kernel
theorem dX8_breaks_115 : decode cX8_breaks 115 = .ok (.iinc 2 1, 3) := by decide +kernel
theorem dX8_breaks_118 : decode cX8_breaks 118 = .ok (.goto (-64), 3) := by decide +kernel
theorem dX8_breaks_121 : decode cX8_breaks 121 = .ok (.iconst 0, 1) := by decide +kernel
theorem dX8_breaks_122 : decode cX8_breaks 122 = .ok (.ireturn, 1) := by decide +kernel
theorem dL_feeds_0 : decode cL_feeds 0 = .ok (.iconst 0, 1) := by decide +kernel
theorem dL_feeds_1 : decode cL_feeds 1 = .ok (.istore_n 2, 1) := by decide +kernel
theorem dL_feeds_2 : decode cL_feeds 2 = .ok (.iconst 0, 1) := by decide +kernel
theorem dL_feeds_3 : decode cL_feeds 3 = .ok (.istore_n 3, 1) := by decide +kernel
theorem dL_feeds_4 : decode cL_feeds 4 = .ok (.iload_n 3, 1) := by decide +kernel
theorem dL_feeds_5 : decode cL_feeds 5 = .ok (.aload_n 1, 1) := by decide +kernel
theorem dL_feeds_6 : decode cL_feeds 6 = .ok (.invokevirtual 7, 3) := by decide +kernel
theorem dL_feeds_9 : decode cL_feeds 9 = .ok (.if_icmp .ge 105, 3) := by decide +kernel
theorem dL_feeds_12 : decode cL_feeds 12 = .ok (.iconst 5, 1) := by decide +kernel
theorem dL_feeds_13 : decode cL_feeds 13 = .ok (.newarray .int, 2) := by decide +kernel
theorem dL_feeds_15 : decode cL_feeds 15 = .ok (.astore 4, 2) := by decide +kernel
theorem dL_feeds_17 : decode cL_feeds 17 = .ok (.iconst 0, 1) := by decide +kernel
theorem dL_feeds_18 : decode cL_feeds 18 = .ok (.istore 5, 2) := by decide +kernel
theorem dL_feeds_20 : decode cL_feeds 20 = .ok (.iload 5, 2) := by decide +kernel
theorem dL_feeds_22 : decode cL_feeds 22 = .ok (.bipush 20, 2) := by decide +kernel
theorem dL_feeds_24 : decode cL_feeds 24 = .ok (.if_icmp .ge 51, 3) := by decide +kernel
theorem dL_feeds_27 : decode cL_feeds 27 = .ok (.aload 4, 2) := by decide +kernel
theorem dL_feeds_29 : decode cL_feeds 29 = .ok (.iload 5, 2) := by decide +kernel
theorem dL_feeds_31 : decode cL_feeds 31 = .ok (.iconst 4, 1) := by decide +kernel
theorem dL_feeds_32 : decode cL_feeds 32 = .ok (.idiv, 1) := by decide +kernel
theorem dL_feeds_33 : decode cL_feeds 33 = .ok (.aload 4, 2) := by decide +kernel
theorem dL_feeds_35 : decode cL_feeds 35 = .ok (.iload 5, 2) := by decide +kernel
theorem dL_feeds_37 : decode cL_feeds 37 = .ok (.iconst 4, 1) := by decide +kernel
theorem dL_feeds_38 : decode cL_feeds 38 = .ok (.idiv, 1) := by decide +kernel
theorem dL_feeds_39 : decode cL_feeds 39 = .ok (.iaload, 1) := by decide +kernel
theorem dL_feeds_40 : decode cL_feeds 40 = .ok (.bipush 8, 2) := by decide +kernel
theorem dL_feeds_42 : decode cL_feeds 42 = .ok (.ishl, 1) := by decide +kernel
theorem dL_feeds_43 : decode cL_feeds 43 = .ok (.iload_n 3, 1) := by decide +kernel
theorem dL_feeds_44 : decode cL_feeds 44 = .ok (.iload 5, 2) := by decide +kernel
theorem dL_feeds_46 : decode cL_feeds 46 = .ok (.iadd, 1) := by decide +kernel
theorem dL_feeds_47 : decode cL_feeds 47 = .ok (.aload_n 1, 1) := by decide +kernel
theorem dL_feeds_48 : decode cL_feeds 48 = .ok (.invokevirtual 7, 3) := by decide +kernel
theorem dL_feeds_51 : decode cL_feeds 51 = .ok (.if_icmp .ge 14, 3) := by decide +kernel
theorem dL_feeds_54 : decode cL_feeds 54 = .ok (.aload_n 1, 1) := by decide +kernel
theorem dL_feeds_55 : decode cL_feeds 55 = .ok (.iload_n 3, 1) := by decide +kernel
theorem dL_feeds_56 : decode cL_feeds 56 = .ok (.iload 5, 2) := by decide +kernel
theorem dL_feeds_58 : decode cL_feeds 58 = .ok (.iadd, 1) := by decide +kernel
theorem dL_feeds_59 : decode cL_feeds 59 = .ok (.invokevirtual 13, 3) := by decide +kernel
theorem dL_feeds_62 : decode cL_feeds 62 = .ok (.goto 5, 3) := by decide +kernel
theorem dL_feeds_65 : decode cL_feeds 65 = .ok (.bipush 32, 2) := by decide +kernel
theorem dL_feeds_67 : decode cL_feeds 67 = .ok (.ior, 1) := by decide +kernel
theorem dL_feeds_68 : decode cL_feeds 68 = .ok (.iastore, 1) := by decide +kernel
theorem dL_feeds_69 : decode cL_feeds 69 = .ok (.iinc 5 1, 3) := by decide +kernel
theorem dL_feeds_72 : decode cL_feeds 72 = .ok (.goto (-52), 3) := by decide +kernel
theorem dL_feeds_75 : decode cL_feeds 75 = .ok (.iinc 2 20, 3) := by decide +kernel
theorem dL_feeds_78 : decode cL_feeds 78 = .ok (.aload_n 0, 1) := by decide +kernel
theorem dL_feeds_79 : decode cL_feeds 79 = .ok (.aload 4, 2) := by decide +kernel
theorem dL_feeds_81 : decode cL_feeds 81 = .ok (.iconst 0, 1) := by decide +kernel
theorem dL_feeds_82 : decode cL_feeds 82 = .ok (.iaload, 1) := by decide +kernel
theorem dL_feeds_83 : decode cL_feeds 83 = .ok (.aload 4, 2) := by decide +kernel
theorem dL_feeds_85 : decode cL_feeds 85 = .ok (.iconst 1, 1) := by decide +kernel
theorem dL_feeds_86 : decode cL_feeds 86 = .ok (.iaload, 1) := by decide +kernel
theorem dL_feeds_87 : decode cL_feeds 87 = .ok (.aload 4, 2) := by decide +kernel
theorem dL_feeds_89 : decode cL_feeds 89 = .ok (.iconst 2, 1) := by decide +kernel
theorem dL_feeds_90 : decode cL_feeds 90 = .ok (.iaload, 1) := by decide +kernel
theorem dL_feeds_91 : decode cL_feeds 91 = .ok (.aload 4, 2) := by decide +kernel
theorem dL_feeds_93 : decode cL_feeds 93 = .ok (.iconst 3, 1) := by decide +kernel
theorem dL_feeds_94 : decode cL_feeds 94 = .ok (.iaload, 1) := by decide +kernel
theorem dL_feeds_95 : decode cL_feeds 95 = .ok (.aload 4, 2) := by decide +kernel
theorem dL_feeds_97 : decode cL_feeds 97 = .ok (.iconst 4, 1) := by decide +kernel
theorem dL_feeds_98 : decode cL_feeds 98 = .ok (.iaload, 1) := by decide +kernel
theorem dL_feeds_99 : decode cL_feeds 99 = .ok (.invokevirtual 17, 3) := by decide +kernel
theorem dL_feeds_102 : decode cL_feeds 102 = .ok (.iload_n 2, 1) := by decide +kernel
theorem dL_feeds_103 : decode cL_feeds 103 = .ok (.if_icmp .eq 5, 3) := by decide +kernel
theorem dL_feeds_106 : decode cL_feeds 106 = .ok (.iconst 0, 1) := by decide +kernel
theorem dL_feeds_107 : decode cL_feeds 107 = .ok (.ireturn, 1) := by decide +kernel
theorem dL_feeds_108 : decode cL_feeds 108 = .ok (.iinc 3 20, 3) := by decide +kernel
theorem dL_feeds_111 : decode cL_feeds 111 = .ok (.goto (-107), 3) := by decide +kernel
theorem dL_feeds_114 : decode cL_feeds 114 = .ok (.iconst 1, 1) := by decide +kernel
theorem dL_feeds_115 : decode cL_feeds 115 = .ok (.ireturn, 1) := by decide +kernel
theorem dL_draw_0 : decode cL_draw 0 = .ok (.aload_n 0, 1) := by decide +kernel
theorem dL_draw_1 : decode cL_draw 1 = .ok (.iconst 0, 1) := by decide +kernel
theorem dL_draw_2 : decode cL_draw 2 = .ok (.aload_n 0, 1) := by decide +kernel
theorem dL_draw_3 : decode cL_draw 3 = .ok (.iconst 0, 1) := by decide +kernel
theorem dL_draw_4 : decode cL_draw 4 = .ok (.iaload, 1) := by decide +kernel
theorem dL_draw_5 : decode cL_draw 5 = .ok (.ldc 23, 2) := by decide +kernel
theorem dL_draw_7 : decode cL_draw 7 = .ok (.imul, 1) := by decide +kernel
theorem dL_draw_8 : decode cL_draw 8 = .ok (.ldc 24, 2) := by decide +kernel
theorem dL_draw_10 : decode cL_draw 10 = .ok (.iadd, 1) := by decide +kernel
theorem dL_draw_11 : decode cL_draw 11 = .ok (.iastore, 1) := by decide +kernel
theorem dL_draw_12 : decode cL_draw 12 = .ok (.aload_n 0, 1) := by decide +kernel
theorem dL_draw_13 : decode cL_draw 13 = .ok (.iconst 0, 1) := by decide +kernel
theorem dL_draw_14 : decode cL_draw 14 = .ok (.iaload, 1) := by decide +kernel
theorem dL_draw_15 : decode cL_draw 15 = .ok (.bipush 8, 2) := by decide +kernel
theorem dL_draw_17 : decode cL_draw 17 = .ok (.iushr, 1) := by decide +kernel
theorem dL_draw_18 : decode cL_draw 18 = .ok (.iload_n 1, 1) := by decide +kernel
theorem dL_draw_19 : decode cL_draw 19 = .ok (.irem, 1) := by decide +kernel
theorem dL_draw_20 : decode cL_draw 20 = .ok (.ireturn, 1) := by decide +kernel
theorem dL_law_0 : decode cL_law 0 = .ok (.new 18, 3) := by decide +kernel
theorem dL_law_3 : decode cL_law 3 = .ok (.dup, 1) := by decide +kernel
theorem dL_law_4 : decode cL_law 4 = .ok (.invokespecial 25, 3) := by decide +kernel
theorem dL_law_7 : decode cL_law 7 = .ok (.astore_n 1, 1) := by decide +kernel
theorem dL_law_8 : decode cL_law 8 = .ok (.aload_n 0, 1) := by decide +kernel
theorem dL_law_9 : decode cL_law 9 = .ok (.arraylength, 1) := by decide +kernel
theorem dL_law_10 : decode cL_law 10 = .ok (.istore_n 2, 1) := by decide +kernel
theorem dL_law_11 : decode cL_law 11 = .ok (.iconst 0, 1) := by decide +kernel
theorem dL_law_12 : decode cL_law 12 = .ok (.istore_n 3, 1) := by decide +kernel
theorem dL_law_13 : decode cL_law 13 = .ok (.iload_n 3, 1) := by decide +kernel
theorem dL_law_14 : decode cL_law 14 = .ok (.iload_n 2, 1) := by decide +kernel
theorem dL_law_15 : decode cL_law 15 = .ok (.if_icmp .ge 32, 3) := by decide +kernel
theorem dL_law_18 : decode cL_law 18 = .ok (.iload_n 3, 1) := by decide +kernel
theorem dL_law_19 : decode cL_law 19 = .ok (.iconst 3, 1) := by decide +kernel
theorem dL_law_20 : decode cL_law 20 = .ok (.if_icmp .ge 27, 3) := by decide +kernel
theorem dL_law_23 : decode cL_law 23 = .ok (.aload_n 1, 1) := by decide +kernel
theorem dL_law_24 : decode cL_law 24 = .ok (.iconst 1, 1) := by decide +kernel
theorem dL_law_25 : decode cL_law 25 = .ok (.newarray .int, 2) := by decide +kernel
theorem dL_law_27 : decode cL_law 27 = .ok (.dup, 1) := by decide +kernel
theorem dL_law_28 : decode cL_law 28 = .ok (.iconst 0, 1) := by decide +kernel
theorem dL_law_29 : decode cL_law 29 = .ok (.aload_n 0, 1) := by decide +kernel
theorem dL_law_30 : decode cL_law 30 = .ok (.iload_n 3, 1) := by decide +kernel
theorem dL_law_31 : decode cL_law 31 = .ok (.iaload, 1) := by decide +kernel
theorem dL_law_32 : decode cL_law 32 = .ok (.iastore, 1) := by decide +kernel
theorem dL_law_33 : decode cL_law 33 = .ok (.invokestatic 26, 3) := by decide +kernel
theorem dL_law_36 : decode cL_law 36 = .ok (.ifCond .ne 5, 3) := by decide +kernel
theorem dL_law_39 : decode cL_law 39 = .ok (.iconst 0, 1) := by decide +kernel
theorem dL_law_40 : decode cL_law 40 = .ok (.ireturn, 1) := by decide +kernel
theorem dL_law_41 : decode cL_law 41 = .ok (.iinc 3 1, 3) := by decide +kernel
theorem dL_law_44 : decode cL_law 44 = .ok (.goto (-31), 3) := by decide +kernel
theorem dL_law_47 : decode cL_law 47 = .ok (.iconst 1, 1) := by decide +kernel
theorem dL_law_48 : decode cL_law 48 = .ok (.ireturn, 1) := by decide +kernel
theorem dL_bench_0 : decode cL_bench 0 = .ok (.new 32, 3) := by decide +kernel
theorem dL_bench_3 : decode cL_bench 3 = .ok (.dup, 1) := by decide +kernel
theorem dL_bench_4 : decode cL_bench 4 = .ok (.invokespecial 34, 3) := by decide +kernel
theorem dL_bench_7 : decode cL_bench 7 = .ok (.astore_n 2, 1) := by decide +kernel
theorem dL_bench_8 : decode cL_bench 8 = .ok (.bipush 8, 2) := by decide +kernel
theorem dL_bench_10 : decode cL_bench 10 = .ok (.newarray .int, 2) := by decide +kernel
theorem dL_bench_12 : decode cL_bench 12 = .ok (.dup, 1) := by decide +kernel
theorem dL_bench_13 : decode cL_bench 13 = .ok (.iconst 0, 1) := by decide +kernel
theorem dL_bench_14 : decode cL_bench 14 = .ok (.aload_n 1, 1) := by decide +kernel
theorem dL_bench_15 : decode cL_bench 15 = .ok (.iconst 3, 1) := by decide +kernel
theorem dL_bench_16 : decode cL_bench 16 = .ok (.invokestatic 35, 3) := by decide +kernel
theorem dL_bench_19 : decode cL_bench 19 = .ok (.iastore, 1) := by decide +kernel
theorem dL_bench_20 : decode cL_bench 20 = .ok (.dup, 1) := by decide +kernel
theorem dL_bench_21 : decode cL_bench 21 = .ok (.iconst 1, 1) := by decide +kernel
theorem dL_bench_22 : decode cL_bench 22 = .ok (.iconst 1, 1) := by decide +kernel
theorem dL_bench_23 : decode cL_bench 23 = .ok (.aload_n 1, 1) := by decide +kernel
theorem dL_bench_24 : decode cL_bench 24 = .ok (.iconst 5, 1) := by decide +kernel
theorem dL_bench_25 : decode cL_bench 25 = .ok (.invokestatic 35, 3) := by decide +kernel
theorem dL_bench_28 : decode cL_bench 28 = .ok (.iadd, 1) := by decide +kernel
theorem dL_bench_29 : decode cL_bench 29 = .ok (.iastore, 1) := by decide +kernel
theorem dL_bench_30 : decode cL_bench 30 = .ok (.dup, 1) := by decide +kernel
theorem dL_bench_31 : decode cL_bench 31 = .ok (.iconst 2, 1) := by decide +kernel
theorem dL_bench_32 : decode cL_bench 32 = .ok (.bipush 10, 2) := by decide +kernel
theorem dL_bench_34 : decode cL_bench 34 = .ok (.aload_n 1, 1) := by decide +kernel
theorem dL_bench_35 : decode cL_bench 35 = .ok (.bipush 50, 2) := by decide +kernel
theorem dL_bench_37 : decode cL_bench 37 = .ok (.invokestatic 35, 3) := by decide +kernel
theorem dL_bench_40 : decode cL_bench 40 = .ok (.iadd, 1) := by decide +kernel
theorem dL_bench_41 : decode cL_bench 41 = .ok (.iastore, 1) := by decide +kernel
theorem dL_bench_42 : decode cL_bench 42 = .ok (.dup, 1) := by decide +kernel
theorem dL_bench_43 : decode cL_bench 43 = .ok (.iconst 3, 1) := by decide +kernel
theorem dL_bench_44 : decode cL_bench 44 = .ok (.iconst 1, 1) := by decide +kernel
theorem dL_bench_45 : decode cL_bench 45 = .ok (.aload_n 1, 1) := by decide +kernel
theorem dL_bench_46 : decode cL_bench 46 = .ok (.iconst 3, 1) := by decide +kernel
theorem dL_bench_47 : decode cL_bench 47 = .ok (.invokestatic 35, 3) := by decide +kernel
theorem dL_bench_50 : decode cL_bench 50 = .ok (.iadd, 1) := by decide +kernel
theorem dL_bench_51 : decode cL_bench 51 = .ok (.iastore, 1) := by decide +kernel
theorem dL_bench_52 : decode cL_bench 52 = .ok (.dup, 1) := by decide +kernel
theorem dL_bench_53 : decode cL_bench 53 = .ok (.iconst 4, 1) := by decide +kernel
theorem dL_bench_54 : decode cL_bench 54 = .ok (.iconst 1, 1) := by decide +kernel
theorem dL_bench_55 : decode cL_bench 55 = .ok (.aload_n 1, 1) := by decide +kernel
theorem dL_bench_56 : decode cL_bench 56 = .ok (.bipush 12, 2) := by decide +kernel
theorem dL_bench_58 : decode cL_bench 58 = .ok (.invokestatic 35, 3) := by decide +kernel
theorem dL_bench_61 : decode cL_bench 61 = .ok (.iadd, 1) := by decide +kernel
theorem dL_bench_62 : decode cL_bench 62 = .ok (.iastore, 1) := by decide +kernel
theorem dL_bench_63 : decode cL_bench 63 = .ok (.dup, 1) := by decide +kernel
theorem dL_bench_64 : decode cL_bench 64 = .ok (.iconst 5, 1) := by decide +kernel
theorem dL_bench_65 : decode cL_bench 65 = .ok (.iconst 1, 1) := by decide +kernel
theorem dL_bench_66 : decode cL_bench 66 = .ok (.aload_n 1, 1) := by decide +kernel
theorem dL_bench_67 : decode cL_bench 67 = .ok (.iconst 4, 1) := by decide +kernel
theorem dL_bench_68 : decode cL_bench 68 = .ok (.invokestatic 35, 3) := by decide +kernel
theorem dL_bench_71 : decode cL_bench 71 = .ok (.iadd, 1) := by decide +kernel
theorem dL_bench_72 : decode cL_bench 72 = .ok (.iastore, 1) := by decide +kernel
theorem dL_bench_73 : decode cL_bench 73 = .ok (.dup, 1) := by decide +kernel
theorem dL_bench_74 : decode cL_bench 74 = .ok (.bipush 6, 2) := by decide +kernel
theorem dL_bench_76 : decode cL_bench 76 = .ok (.iconst 2, 1) := by decide +kernel
theorem dL_bench_77 : decode cL_bench 77 = .ok (.aload_n 1, 1) := by decide +kernel
theorem dL_bench_78 : decode cL_bench 78 = .ok (.bipush 7, 2) := by decide +kernel
theorem dL_bench_80 : decode cL_bench 80 = .ok (.invokestatic 35, 3) := by decide +kernel
theorem dL_bench_83 : decode cL_bench 83 = .ok (.iadd, 1) := by decide +kernel
theorem dL_bench_84 : decode cL_bench 84 = .ok (.iastore, 1) := by decide +kernel
theorem dL_bench_85 : decode cL_bench 85 = .ok (.dup, 1) := by decide +kernel
theorem dL_bench_86 : decode cL_bench 86 = .ok (.bipush 7, 2) := by decide +kernel
theorem dL_bench_88 : decode cL_bench 88 = .ok (.iconst 1, 1) := by decide +kernel
theorem dL_bench_89 : decode cL_bench 89 = .ok (.aload_n 1, 1) := by decide +kernel
theorem dL_bench_90 : decode cL_bench 90 = .ok (.bipush 60, 2) := by decide +kernel
theorem dL_bench_92 : decode cL_bench 92 = .ok (.invokestatic 35, 3) := by decide +kernel
theorem dL_bench_95 : decode cL_bench 95 = .ok (.iadd, 1) := by decide +kernel
theorem dL_bench_96 : decode cL_bench 96 = .ok (.iastore, 1) := by decide +kernel
theorem dL_bench_97 : decode cL_bench 97 = .ok (.astore_n 3, 1) := by decide +kernel
theorem dL_bench_98 : decode cL_bench 98 = .ok (.aload_n 3, 1) := by decide +kernel
theorem dL_bench_99 : decode cL_bench 99 = .ok (.iconst 0, 1) := by decide +kernel
theorem dL_bench_100 : decode cL_bench 100 = .ok (.aload_n 2, 1) := by decide +kernel
theorem dL_bench_101 : decode cL_bench 101 = .ok (.getfield 39, 3) := by decide +kernel
theorem dL_bench_104 : decode cL_bench 104 = .ok (.iconst 0, 1) := by decide +kernel
theorem dL_bench_105 : decode cL_bench 105 = .ok (.bipush 8, 2) := by decide +kernel
theorem dL_bench_107 : decode cL_bench 107 = .ok (.invokestatic 43, 3) := by decide +kernel
theorem dL_bench_110 : decode cL_bench 110 = .ok (.aload_n 0, 1) := by decide +kernel
theorem dL_bench_111 : decode cL_bench 111 = .ok (.ldc 49, 2) := by decide +kernel
theorem dL_bench_113 : decode cL_bench 113 = .ok (.invokevirtual 51, 3) := by decide +kernel
theorem dL_bench_116 : decode cL_bench 116 = .ok (.aload_n 3, 1) := by decide +kernel
theorem dL_bench_117 : decode cL_bench 117 = .ok (.iconst 0, 1) := by decide +kernel
theorem dL_bench_118 : decode cL_bench 118 = .ok (.iaload, 1) := by decide +kernel
theorem dL_bench_119 : decode cL_bench 119 = .ok (.ifCond .ne 8, 3) := by decide +kernel
theorem dL_bench_122 : decode cL_bench 122 = .ok (.ldc 56, 2) := by decide +kernel
theorem dL_bench_124 : decode cL_bench 124 = .ok (.goto 17, 3) := by decide +kernel
theorem dL_bench_127 : decode cL_bench 127 = .ok (.aload_n 3, 1) := by decide +kernel
theorem dL_bench_128 : decode cL_bench 128 = .ok (.iconst 0, 1) := by decide +kernel
theorem dL_bench_129 : decode cL_bench 129 = .ok (.iaload, 1) := by decide +kernel
theorem dL_bench_130 : decode cL_bench 130 = .ok (.iconst 1, 1) := by decide +kernel
theorem dL_bench_131 : decode cL_bench 131 = .ok (.if_icmp .ne 8, 3) := by decide +kernel
theorem dL_bench_134 : decode cL_bench 134 = .ok (.ldc 58, 2) := by decide +kernel
theorem dL_bench_136 : decode cL_bench 136 = .ok (.goto 5, 3) := by decide +kernel
theorem dL_bench_139 : decode cL_bench 139 = .ok (.ldc 60, 2) := by decide +kernel
theorem dL_bench_141 : decode cL_bench 141 = .ok (.invokevirtual 51, 3) := by decide +kernel
theorem dL_bench_144 : decode cL_bench 144 = .ok (.bipush 32, 2) := by decide +kernel
theorem dL_bench_146 : decode cL_bench 146 = .ok (.invokevirtual 62, 3) := by decide +kernel
theorem dL_bench_149 : decode cL_bench 149 = .ok (.aload_n 3, 1) := by decide +kernel
theorem dL_bench_150 : decode cL_bench 150 = .ok (.iconst 1, 1) := by decide +kernel
theorem dL_bench_151 : decode cL_bench 151 = .ok (.iaload, 1) := by decide +kernel
theorem dL_bench_152 : decode cL_bench 152 = .ok (.invokevirtual 65, 3) := by decide +kernel
theorem dL_bench_155 : decode cL_bench 155 = .ok (.bipush 32, 2) := by decide +kernel
theorem dL_bench_157 : decode cL_bench 157 = .ok (.invokevirtual 62, 3) := by decide +kernel
theorem dL_bench_160 : decode cL_bench 160 = .ok (.aload_n 3, 1) := by decide +kernel
theorem dL_bench_161 : decode cL_bench 161 = .ok (.iconst 2, 1) := by decide +kernel
theorem dL_bench_162 : decode cL_bench 162 = .ok (.iaload, 1) := by decide +kernel
theorem dL_bench_163 : decode cL_bench 163 = .ok (.invokevirtual 65, 3) := by decide +kernel
theorem dL_bench_166 : decode cL_bench 166 = .ok (.ldc 68, 2) := by decide +kernel
theorem dL_bench_168 : decode cL_bench 168 = .ok (.invokevirtual 51, 3) := by decide +kernel
theorem dL_bench_171 : decode cL_bench 171 = .ok (.aload_n 3, 1) := by decide +kernel
theorem dL_bench_172 : decode cL_bench 172 = .ok (.iconst 3, 1) := by decide +kernel
theorem dL_bench_173 : decode cL_bench 173 = .ok (.iaload, 1) := by decide +kernel
theorem dL_bench_174 : decode cL_bench 174 = .ok (.invokevirtual 65, 3) := by decide +kernel
theorem dL_bench_177 : decode cL_bench 177 = .ok (.ldc 70, 2) := by decide +kernel
theorem dL_bench_179 : decode cL_bench 179 = .ok (.invokevirtual 51, 3) := by decide +kernel
theorem dL_bench_182 : decode cL_bench 182 = .ok (.aload_n 3, 1) := by decide +kernel
theorem dL_bench_183 : decode cL_bench 183 = .ok (.iconst 4, 1) := by decide +kernel
theorem dL_bench_184 : decode cL_bench 184 = .ok (.iaload, 1) := by decide +kernel
theorem dL_bench_185 : decode cL_bench 185 = .ok (.invokevirtual 65, 3) := by decide +kernel
theorem dL_bench_188 : decode cL_bench 188 = .ok (.ldc 72, 2) := by decide +kernel
theorem dL_bench_190 : decode cL_bench 190 = .ok (.invokevirtual 51, 3) := by decide +kernel
theorem dL_bench_193 : decode cL_bench 193 = .ok (.aload_n 3, 1) := by decide +kernel
theorem dL_bench_194 : decode cL_bench 194 = .ok (.iconst 5, 1) := by decide +kernel
theorem dL_bench_195 : decode cL_bench 195 = .ok (.iaload, 1) := by decide +kernel
theorem dL_bench_196 : decode cL_bench 196 = .ok (.invokevirtual 65, 3) := by decide +kernel
theorem dL_bench_199 : decode cL_bench 199 = .ok (.bipush 32, 2) := by decide +kernel
theorem dL_bench_201 : decode cL_bench 201 = .ok (.invokevirtual 62, 3) := by decide +kernel
theorem dL_bench_204 : decode cL_bench 204 = .ok (.aload_n 3, 1) := by decide +kernel
theorem dL_bench_205 : decode cL_bench 205 = .ok (.bipush 6, 2) := by decide +kernel
theorem dL_bench_207 : decode cL_bench 207 = .ok (.iaload, 1) := by decide +kernel
theorem dL_bench_208 : decode cL_bench 208 = .ok (.invokevirtual 65, 3) := by decide +kernel
theorem dL_bench_211 : decode cL_bench 211 = .ok (.ldc 74, 2) := by decide +kernel
theorem dL_bench_213 : decode cL_bench 213 = .ok (.invokevirtual 51, 3) := by decide +kernel
theorem dL_bench_216 : decode cL_bench 216 = .ok (.aload_n 3, 1) := by decide +kernel
theorem dL_bench_217 : decode cL_bench 217 = .ok (.bipush 7, 2) := by decide +kernel
theorem dL_bench_219 : decode cL_bench 219 = .ok (.iaload, 1) := by decide +kernel
theorem dL_bench_220 : decode cL_bench 220 = .ok (.invokevirtual 65, 3) := by decide +kernel
theorem dL_bench_223 : decode cL_bench 223 = .ok (.bipush 59, 2) := by decide +kernel
theorem dL_bench_225 : decode cL_bench 225 = .ok (.invokevirtual 62, 3) := by decide +kernel
theorem dL_bench_228 : decode cL_bench 228 = .ok (.pop, 1) := by decide +kernel
theorem dL_bench_229 : decode cL_bench 229 = .ok (.aload_n 1, 1) := by decide +kernel
theorem dL_bench_230 : decode cL_bench 230 = .ok (.iconst 5, 1) := by decide +kernel
theorem dL_bench_231 : decode cL_bench 231 = .ok (.invokestatic 35, 3) := by decide +kernel
theorem dL_bench_234 : decode cL_bench 234 = .ok (.istore 4, 2) := by decide +kernel
theorem dL_bench_236 : decode cL_bench 236 = .ok (.iload 4, 2) := by decide +kernel
theorem dL_bench_238 : decode cL_bench 238 = .ok (.ifCond .le 168, 3) := by decide +kernel
theorem dL_bench_241 : decode cL_bench 241 = .ok (.aload_n 1, 1) := by decide +kernel
theorem dL_bench_242 : decode cL_bench 242 = .ok (.bipush 16, 2) := by decide +kernel
theorem dL_bench_244 : decode cL_bench 244 = .ok (.invokestatic 35, 3) := by decide +kernel
theorem dL_bench_247 : decode cL_bench 247 = .ok (.istore 5, 2) := by decide +kernel
theorem dL_bench_249 : decode cL_bench 249 = .ok (.aload_n 1, 1) := by decide +kernel
theorem dL_bench_250 : decode cL_bench 250 = .ok (.iconst 3, 1) := by decide +kernel
theorem dL_bench_251 : decode cL_bench 251 = .ok (.invokestatic 35, 3) := by decide +kernel
theorem dL_bench_254 : decode cL_bench 254 = .ok (.istore 6, 2) := by decide +kernel
theorem dL_bench_256 : decode cL_bench 256 = .ok (.iload 6, 2) := by decide +kernel
theorem dL_bench_258 : decode cL_bench 258 = .ok (.ifCond .ne 38, 3) := by decide +kernel
theorem dL_bench_261 : decode cL_bench 261 = .ok (.aload_n 2, 1) := by decide +kernel
theorem dL_bench_262 : decode cL_bench 262 = .ok (.getfield 76, 3) := by decide +kernel
theorem dL_bench_265 : decode cL_bench 265 = .ok (.iload 5, 2) := by decide +kernel
theorem dL_bench_267 : decode cL_bench 267 = .ok (.baload, 1) := by decide +kernel
theorem dL_bench_268 : decode cL_bench 268 = .ok (.ifCond .ne 28, 3) := by decide +kernel
theorem dL_bench_271 : decode cL_bench 271 = .ok (.aload_n 2, 1) := by decide +kernel
theorem dL_bench_272 : decode cL_bench 272 = .ok (.getfield 76, 3) := by decide +kernel
theorem dL_bench_275 : decode cL_bench 275 = .ok (.iload 5, 2) := by decide +kernel
theorem dL_bench_277 : decode cL_bench 277 = .ok (.iconst 1, 1) := by decide +kernel
theorem dL_bench_278 : decode cL_bench 278 = .ok (.bastore, 1) := by decide +kernel
theorem dL_bench_279 : decode cL_bench 279 = .ok (.aload_n 0, 1) := by decide +kernel
theorem dL_bench_280 : decode cL_bench 280 = .ok (.ldc 80, 2) := by decide +kernel
theorem dL_bench_282 : decode cL_bench 282 = .ok (.invokevirtual 51, 3) := by decide +kernel
theorem dL_bench_285 : decode cL_bench 285 = .ok (.iload 5, 2) := by decide +kernel
theorem dL_bench_287 : decode cL_bench 287 = .ok (.invokevirtual 65, 3) := by decide +kernel
theorem dL_bench_290 : decode cL_bench 290 = .ok (.bipush 59, 2) := by decide +kernel
theorem dL_bench_292 : decode cL_bench 292 = .ok (.invokevirtual 62, 3) := by decide +kernel
theorem dL_bench_295 : decode cL_bench 295 = .ok (.pop, 1) := by decide +kernel
theorem dL_bench_296 : decode cL_bench 296 = .ok (.iload 6, 2) := by decide +kernel
theorem dL_bench_298 : decode cL_bench 298 = .ok (.iconst 1, 1) := by decide +kernel
theorem dL_bench_299 : decode cL_bench 299 = .ok (.if_icmp .ne 38, 3) := by decide +kernel
theorem dL_bench_302 : decode cL_bench 302 = .ok (.aload_n 2, 1) := by decide +kernel
theorem dL_bench_303 : decode cL_bench 303 = .ok (.getfield 82, 3) := by decide +kernel
theorem dL_bench_306 : decode cL_bench 306 = .ok (.iload 5, 2) := by decide +kernel
theorem dL_bench_308 : decode cL_bench 308 = .ok (.baload, 1) := by decide +kernel
theorem dL_bench_309 : decode cL_bench 309 = .ok (.ifCond .ne 28, 3) := by decide +kernel
theorem dL_bench_312 : decode cL_bench 312 = .ok (.aload_n 2, 1) := by decide +kernel
theorem dL_bench_313 : decode cL_bench 313 = .ok (.getfield 82, 3) := by decide +kernel
theorem dL_bench_316 : decode cL_bench 316 = .ok (.iload 5, 2) := by decide +kernel
theorem dL_bench_318 : decode cL_bench 318 = .ok (.iconst 1, 1) := by decide +kernel
theorem dL_bench_319 : decode cL_bench 319 = .ok (.bastore, 1) := by decide +kernel
theorem dL_bench_320 : decode cL_bench 320 = .ok (.aload_n 0, 1) := by decide +kernel
theorem dL_bench_321 : decode cL_bench 321 = .ok (.ldc 85, 2) := by decide +kernel
theorem dL_bench_323 : decode cL_bench 323 = .ok (.invokevirtual 51, 3) := by decide +kernel
theorem dL_bench_326 : decode cL_bench 326 = .ok (.iload 5, 2) := by decide +kernel
theorem dL_bench_328 : decode cL_bench 328 = .ok (.invokevirtual 65, 3) := by decide +kernel
theorem dL_bench_331 : decode cL_bench 331 = .ok (.bipush 59, 2) := by decide +kernel
theorem dL_bench_333 : decode cL_bench 333 = .ok (.invokevirtual 62, 3) := by decide +kernel
theorem dL_bench_336 : decode cL_bench 336 = .ok (.pop, 1) := by decide +kernel
theorem dL_bench_337 : decode cL_bench 337 = .ok (.iload 6, 2) := by decide +kernel
theorem dL_bench_339 : decode cL_bench 339 = .ok (.iconst 2, 1) := by decide +kernel
theorem dL_bench_340 : decode cL_bench 340 = .ok (.if_icmp .ne 60, 3) := by decide +kernel
theorem dL_bench_343 : decode cL_bench 343 = .ok (.aload_n 2, 1) := by decide +kernel
theorem dL_bench_344 : decode cL_bench 344 = .ok (.getfield 87, 3) := by decide +kernel
theorem dL_bench_347 : decode cL_bench 347 = .ok (.iload 5, 2) := by decide +kernel
theorem dL_bench_349 : decode cL_bench 349 = .ok (.iaload, 1) := by decide +kernel
theorem dL_bench_350 : decode cL_bench 350 = .ok (.ifCond .ne 50, 3) := by decide +kernel
theorem dL_bench_353 : decode cL_bench 353 = .ok (.aload_n 2, 1) := by decide +kernel
theorem dL_bench_354 : decode cL_bench 354 = .ok (.getfield 87, 3) := by decide +kernel
theorem dL_bench_357 : decode cL_bench 357 = .ok (.iload 5, 2) := by decide +kernel
theorem dL_bench_359 : decode cL_bench 359 = .ok (.iconst 1, 1) := by decide +kernel
theorem dL_bench_360 : decode cL_bench 360 = .ok (.aload_n 1, 1) := by decide +kernel
theorem dL_bench_361 : decode cL_bench 361 = .ok (.bipush 20, 2) := by decide +kernel
theorem dL_bench_363 : decode cL_bench 363 = .ok (.invokestatic 35, 3) := by decide +kernel
theorem dL_bench_366 : decode cL_bench 366 = .ok (.iadd, 1) := by decide +kernel
theorem dL_bench_367 : decode cL_bench 367 = .ok (.iastore, 1) := by decide +kernel
theorem dL_bench_368 : decode cL_bench 368 = .ok (.aload_n 0, 1) := by decide +kernel
theorem dL_bench_369 : decode cL_bench 369 = .ok (.ldc 90, 2) := by decide +kernel
theorem dL_bench_371 : decode cL_bench 371 = .ok (.invokevirtual 51, 3) := by decide +kernel
theorem dL_bench_374 : decode cL_bench 374 = .ok (.iload 5, 2) := by decide +kernel
theorem dL_bench_376 : decode cL_bench 376 = .ok (.invokevirtual 65, 3) := by decide +kernel
theorem dL_bench_379 : decode cL_bench 379 = .ok (.bipush 32, 2) := by decide +kernel
theorem dL_bench_381 : decode cL_bench 381 = .ok (.invokevirtual 62, 3) := by decide +kernel
theorem dL_bench_384 : decode cL_bench 384 = .ok (.aload_n 2, 1) := by decide +kernel
theorem dL_bench_385 : decode cL_bench 385 = .ok (.getfield 87, 3) := by decide +kernel
theorem dL_bench_388 : decode cL_bench 388 = .ok (.iload 5, 2) := by decide +kernel
theorem dL_bench_390 : decode cL_bench 390 = .ok (.iaload, 1) := by decide +kernel
theorem dL_bench_391 : decode cL_bench 391 = .ok (.invokevirtual 65, 3) := by decide +kernel
theorem dL_bench_394 : decode cL_bench 394 = .ok (.bipush 59, 2) := by decide +kernel
theorem dL_bench_396 : decode cL_bench 396 = .ok (.invokevirtual 62, 3) := by decide +kernel
theorem dL_bench_399 : decode cL_bench 399 = .ok (.pop, 1) := by decide +kernel
theorem dL_bench_400 : decode cL_bench 400 = .ok (.iinc 4 (-1), 3) := by decide +kernel
theorem dL_bench_403 : decode cL_bench 403 = .ok (.goto (-167), 3) := by decide +kernel
theorem dL_bench_406 : decode cL_bench 406 = .ok (.aload_n 2, 1) := by decide +kernel
theorem dL_bench_407 : decode cL_bench 407 = .ok (.areturn, 1) := by decide +kernel
theorem dL_plays_0 : decode cL_plays 0 = .ok (.new 52, 3) := by decide +kernel
theorem dL_plays_3 : decode cL_plays 3 = .ok (.dup, 1) := by decide +kernel
theorem dL_plays_4 : decode cL_plays 4 = .ok (.invokespecial 92, 3) := by decide +kernel
theorem dL_plays_7 : decode cL_plays 7 = .ok (.astore_n 2, 1) := by decide +kernel
theorem dL_plays_8 : decode cL_plays 8 = .ok (.aload_n 2, 1) := by decide +kernel
theorem dL_plays_9 : decode cL_plays 9 = .ok (.aload_n 1, 1) := by decide +kernel
theorem dL_plays_10 : decode cL_plays 10 = .ok (.invokestatic 93, 3) := by decide +kernel
theorem dL_plays_13 : decode cL_plays 13 = .ok (.astore_n 3, 1) := by decide +kernel
theorem dL_plays_14 : decode cL_plays 14 = .ok (.sipush 144, 3) := by decide +kernel
theorem dL_plays_17 : decode cL_plays 17 = .ok (.newarray .boolean, 2) := by decide +kernel
theorem dL_plays_19 : decode cL_plays 19 = .ok (.astore 4, 2) := by decide +kernel
theorem dL_plays_21 : decode cL_plays 21 = .ok (.new 97, 3) := by decide +kernel
theorem dL_plays_24 : decode cL_plays 24 = .ok (.dup, 1) := by decide +kernel
theorem dL_plays_25 : decode cL_plays 25 = .ok (.invokespecial 99, 3) := by decide +kernel
theorem dL_plays_28 : decode cL_plays 28 = .ok (.astore 5, 2) := by decide +kernel
theorem dL_plays_30 : decode cL_plays 30 = .ok (.aload_n 0, 1) := by decide +kernel
theorem dL_plays_31 : decode cL_plays 31 = .ok (.aload_n 2, 1) := by decide +kernel
theorem dL_plays_32 : decode cL_plays 32 = .ok (.invokevirtual 100, 3) := by decide +kernel
theorem dL_plays_35 : decode cL_plays 35 = .ok (.invokestatic 104, 3) := by decide +kernel
theorem dL_plays_38 : decode cL_plays 38 = .ok (.ifCond .eq 14, 3) := by decide +kernel
theorem dL_plays_41 : decode cL_plays 41 = .ok (.aload_n 0, 1) := by decide +kernel
theorem dL_plays_42 : decode cL_plays 42 = .ok (.aload_n 2, 1) := by decide +kernel
theorem dL_plays_43 : decode cL_plays 43 = .ok (.invokevirtual 108, 3) := by decide +kernel
theorem dL_plays_46 : decode cL_plays 46 = .ok (.invokevirtual 109, 3) := by decide +kernel
theorem dL_plays_49 : decode cL_plays 49 = .ok (.ifCond .eq 5, 3) := by decide +kernel
theorem dL_plays_52 : decode cL_plays 52 = .ok (.iconst 0, 1) := by decide +kernel
theorem dL_plays_53 : decode cL_plays 53 = .ok (.ireturn, 1) := by decide +kernel
theorem dL_plays_54 : decode cL_plays 54 = .ok (.iconst 0, 1) := by decide +kernel
theorem dL_plays_55 : decode cL_plays 55 = .ok (.istore 6, 2) := by decide +kernel
theorem dL_plays_57 : decode cL_plays 57 = .ok (.iload 6, 2) := by decide +kernel
theorem dL_plays_59 : decode cL_plays 59 = .ok (.bipush 7, 2) := by decide +kernel
theorem dL_plays_61 : decode cL_plays 61 = .ok (.if_icmp .ge 48, 3) := by decide +kernel
theorem dL_plays_64 : decode cL_plays 64 = .ok (.aload_n 0, 1) := by decide +kernel
theorem dL_plays_65 : decode cL_plays 65 = .ok (.aload_n 3, 1) := by decide +kernel
theorem dL_plays_66 : decode cL_plays 66 = .ok (.aload 5, 2) := by decide +kernel
theorem dL_plays_68 : decode cL_plays 68 = .ok (.aload 4, 2) := by decide +kernel
theorem dL_plays_70 : decode cL_plays 70 = .ok (.aload_n 1, 1) := by decide +kernel
theorem dL_plays_71 : decode cL_plays 71 = .ok (.invokestatic 113, 3) := by decide +kernel
theorem dL_plays_74 : decode cL_plays 74 = .ok (.ifCond .eq 27, 3) := by decide +kernel
theorem dL_plays_77 : decode cL_plays 77 = .ok (.aload_n 0, 1) := by decide +kernel
theorem dL_plays_78 : decode cL_plays 78 = .ok (.aload_n 3, 1) := by decide +kernel
theorem dL_plays_79 : decode cL_plays 79 = .ok (.aload 5, 2) := by decide +kernel
theorem dL_plays_81 : decode cL_plays 81 = .ok (.aload_n 1, 1) := by decide +kernel
theorem dL_plays_82 : decode cL_plays 82 = .ok (.invokestatic 117, 3) := by decide +kernel
theorem dL_plays_85 : decode cL_plays 85 = .ok (.ifCond .eq 16, 3) := by decide +kernel
theorem dL_plays_88 : decode cL_plays 88 = .ok (.aload_n 0, 1) := by decide +kernel
theorem dL_plays_89 : decode cL_plays 89 = .ok (.aload_n 3, 1) := by decide +kernel
theorem dL_plays_90 : decode cL_plays 90 = .ok (.aload 5, 2) := by decide +kernel
theorem dL_plays_92 : decode cL_plays 92 = .ok (.aload 4, 2) := by decide +kernel
theorem dL_plays_94 : decode cL_plays 94 = .ok (.aload_n 1, 1) := by decide +kernel
theorem dL_plays_95 : decode cL_plays 95 = .ok (.invokestatic 121, 3) := by decide +kernel
theorem dL_plays_98 : decode cL_plays 98 = .ok (.ifCond .ne 5, 3) := by decide +kernel
theorem dL_plays_101 : decode cL_plays 101 = .ok (.iconst 0, 1) := by decide +kernel
theorem dL_plays_102 : decode cL_plays 102 = .ok (.ireturn, 1) := by decide +kernel
theorem dL_plays_103 : decode cL_plays 103 = .ok (.iinc 6 1, 3) := by decide +kernel
theorem dL_plays_106 : decode cL_plays 106 = .ok (.goto (-49), 3) := by decide +kernel
theorem dL_plays_109 : decode cL_plays 109 = .ok (.iconst 1, 1) := by decide +kernel
theorem dL_plays_110 : decode cL_plays 110 = .ok (.ireturn, 1) := by decide +kernel
theorem dL_run_0 : decode cL_run 0 = .ok (.aload_n 2, 1) := by decide +kernel
theorem dL_run_1 : decode cL_run 1 = .ok (.aload_n 1, 1) := by decide +kernel
theorem dL_run_2 : decode cL_run 2 = .ok (.invokevirtual 124, 3) := by decide +kernel
theorem dL_run_5 : decode cL_run 5 = .ok (.astore 4, 2) := by decide +kernel
theorem dL_run_7 : decode cL_run 7 = .ok (.iconst 0, 1) := by decide +kernel
theorem dL_run_8 : decode cL_run 8 = .ok (.istore 5, 2) := by decide +kernel
theorem dL_run_10 : decode cL_run 10 = .ok (.iload 5, 2) := by decide +kernel
theorem dL_run_12 : decode cL_run 12 = .ok (.bipush 8, 2) := by decide +kernel
theorem dL_run_14 : decode cL_run 14 = .ok (.if_icmp .ge 27, 3) := by decide +kernel
theorem dL_run_17 : decode cL_run 17 = .ok (.aload_n 0, 1) := by decide +kernel
theorem dL_run_18 : decode cL_run 18 = .ok (.iload 5, 2) := by decide +kernel
theorem dL_run_20 : decode cL_run 20 = .ok (.invokevirtual 128, 3) := by decide +kernel
theorem dL_run_23 : decode cL_run 23 = .ok (.aload_n 1, 1) := by decide +kernel
theorem dL_run_24 : decode cL_run 24 = .ok (.getfield 39, 3) := by decide +kernel
theorem dL_run_27 : decode cL_run 27 = .ok (.iload 5, 2) := by decide +kernel
theorem dL_run_29 : decode cL_run 29 = .ok (.iaload, 1) := by decide +kernel
theorem dL_run_30 : decode cL_run 30 = .ok (.if_icmp .eq 5, 3) := by decide +kernel
theorem dL_run_33 : decode cL_run 33 = .ok (.iconst 0, 1) := by decide +kernel
theorem dL_run_34 : decode cL_run 34 = .ok (.ireturn, 1) := by decide +kernel
theorem dL_run_35 : decode cL_run 35 = .ok (.iinc 5 1, 3) := by decide +kernel
theorem dL_run_38 : decode cL_run 38 = .ok (.goto (-28), 3) := by decide +kernel
theorem dL_run_41 : decode cL_run 41 = .ok (.aload_n 0, 1) := by decide +kernel
theorem dL_run_42 : decode cL_run 42 = .ok (.bipush 8, 2) := by decide +kernel
theorem dL_run_44 : decode cL_run 44 = .ok (.invokevirtual 128, 3) := by decide +kernel
theorem dL_run_47 : decode cL_run 47 = .ok (.aload_n 1, 1) := by decide +kernel
theorem dL_run_48 : decode cL_run 48 = .ok (.invokevirtual 131, 3) := by decide +kernel
theorem dL_run_51 : decode cL_run 51 = .ok (.if_icmp .eq 5, 3) := by decide +kernel
theorem dL_run_54 : decode cL_run 54 = .ok (.iconst 0, 1) := by decide +kernel
theorem dL_run_55 : decode cL_run 55 = .ok (.ireturn, 1) := by decide +kernel
theorem dL_run_56 : decode cL_run 56 = .ok (.iconst 0, 1) := by decide +kernel
theorem dL_run_57 : decode cL_run 57 = .ok (.istore 5, 2) := by decide +kernel
theorem dL_run_59 : decode cL_run 59 = .ok (.iload 5, 2) := by decide +kernel
theorem dL_run_61 : decode cL_run 61 = .ok (.aload_n 1, 1) := by decide +kernel
theorem dL_run_62 : decode cL_run 62 = .ok (.invokevirtual 131, 3) := by decide +kernel
theorem dL_run_65 : decode cL_run 65 = .ok (.if_icmp .ge 86, 3) := by decide +kernel
theorem dL_run_68 : decode cL_run 68 = .ok (.aload_n 1, 1) := by decide +kernel
theorem dL_run_69 : decode cL_run 69 = .ok (.iload 5, 2) := by decide +kernel
theorem dL_run_71 : decode cL_run 71 = .ok (.invokevirtual 134, 3) := by decide +kernel
theorem dL_run_74 : decode cL_run 74 = .ok (.istore 6, 2) := by decide +kernel
theorem dL_run_76 : decode cL_run 76 = .ok (.aload_n 0, 1) := by decide +kernel
theorem dL_run_77 : decode cL_run 77 = .ok (.iload 5, 2) := by decide +kernel
theorem dL_run_79 : decode cL_run 79 = .ok (.iconst 0, 1) := by decide +kernel
theorem dL_run_80 : decode cL_run 80 = .ok (.invokevirtual 137, 3) := by decide +kernel
theorem dL_run_83 : decode cL_run 83 = .ok (.iload 6, 2) := by decide +kernel
theorem dL_run_85 : decode cL_run 85 = .ok (.sipush 1000, 3) := by decide +kernel
theorem dL_run_88 : decode cL_run 88 = .ok (.irem, 1) := by decide +kernel
theorem dL_run_89 : decode cL_run 89 = .ok (.if_icmp .ne 54, 3) := by decide +kernel
theorem dL_run_92 : decode cL_run 92 = .ok (.aload_n 0, 1) := by decide +kernel
theorem dL_run_93 : decode cL_run 93 = .ok (.iload 5, 2) := by decide +kernel
theorem dL_run_95 : decode cL_run 95 = .ok (.iconst 1, 1) := by decide +kernel
theorem dL_run_96 : decode cL_run 96 = .ok (.invokevirtual 137, 3) := by decide +kernel
theorem dL_run_99 : decode cL_run 99 = .ok (.iload 6, 2) := by decide +kernel
theorem dL_run_101 : decode cL_run 101 = .ok (.sipush 1000, 3) := by decide +kernel
theorem dL_run_104 : decode cL_run 104 = .ok (.idiv, 1) := by decide +kernel
theorem dL_run_105 : decode cL_run 105 = .ok (.if_icmp .ne 38, 3) := by decide +kernel
theorem dL_run_108 : decode cL_run 108 = .ok (.aload_n 0, 1) := by decide +kernel
theorem dL_run_109 : decode cL_run 109 = .ok (.iload 5, 2) := by decide +kernel
theorem dL_run_111 : decode cL_run 111 = .ok (.iconst 2, 1) := by decide +kernel
theorem dL_run_112 : decode cL_run 112 = .ok (.invokevirtual 137, 3) := by decide +kernel
theorem dL_run_115 : decode cL_run 115 = .ok (.iload 6, 2) := by decide +kernel
theorem dL_run_117 : decode cL_run 117 = .ok (.sipush 1000, 3) := by decide +kernel
theorem dL_run_120 : decode cL_run 120 = .ok (.irem, 1) := by decide +kernel
theorem dL_run_121 : decode cL_run 121 = .ok (.iconst 2, 1) := by decide +kernel
theorem dL_run_122 : decode cL_run 122 = .ok (.if_icmp .ne 17, 3) := by decide +kernel
theorem dL_run_125 : decode cL_run 125 = .ok (.aload_n 1, 1) := by decide +kernel
theorem dL_run_126 : decode cL_run 126 = .ok (.getfield 87, 3) := by decide +kernel
theorem dL_run_129 : decode cL_run 129 = .ok (.iload 6, 2) := by decide +kernel
theorem dL_run_131 : decode cL_run 131 = .ok (.sipush 1000, 3) := by decide +kernel
theorem dL_run_134 : decode cL_run 134 = .ok (.idiv, 1) := by decide +kernel
theorem dL_run_135 : decode cL_run 135 = .ok (.iaload, 1) := by decide +kernel
theorem dL_run_136 : decode cL_run 136 = .ok (.goto 4, 3) := by decide +kernel
theorem dL_run_139 : decode cL_run 139 = .ok (.iconst 0, 1) := by decide +kernel
theorem dL_run_140 : decode cL_run 140 = .ok (.if_icmp .eq 5, 3) := by decide +kernel
theorem dL_run_143 : decode cL_run 143 = .ok (.iconst 0, 1) := by decide +kernel
theorem dL_run_144 : decode cL_run 144 = .ok (.ireturn, 1) := by decide +kernel
theorem dL_run_145 : decode cL_run 145 = .ok (.iinc 5 1, 3) := by decide +kernel
theorem dL_run_148 : decode cL_run 148 = .ok (.goto (-89), 3) := by decide +kernel
theorem dL_run_151 : decode cL_run 151 = .ok (.iconst 0, 1) := by decide +kernel
theorem dL_run_152 : decode cL_run 152 = .ok (.istore 5, 2) := by decide +kernel
theorem dL_run_154 : decode cL_run 154 = .ok (.iconst 0, 1) := by decide +kernel
theorem dL_run_155 : decode cL_run 155 = .ok (.istore 6, 2) := by decide +kernel
theorem dL_run_157 : decode cL_run 157 = .ok (.iconst 0, 1) := by decide +kernel
theorem dL_run_158 : decode cL_run 158 = .ok (.istore 7, 2) := by decide +kernel
theorem dL_run_160 : decode cL_run 160 = .ok (.iload 7, 2) := by decide +kernel
theorem dL_run_162 : decode cL_run 162 = .ok (.aload 4, 2) := by decide +kernel
theorem dL_run_164 : decode cL_run 164 = .ok (.getfield 140, 3) := by decide +kernel
theorem dL_run_167 : decode cL_run 167 = .ok (.if_icmp .ge 109, 3) := by decide +kernel
theorem dL_run_170 : decode cL_run 170 = .ok (.iload 6, 2) := by decide +kernel
theorem dL_run_172 : decode cL_run 172 = .ok (.aload 4, 2) := by decide +kernel
theorem dL_run_174 : decode cL_run 174 = .ok (.getfield 144, 3) := by decide +kernel
theorem dL_run_177 : decode cL_run 177 = .ok (.iload 7, 2) := by decide +kernel
theorem dL_run_179 : decode cL_run 179 = .ok (.iaload, 1) := by decide +kernel
theorem dL_run_180 : decode cL_run 180 = .ok (.iadd, 1) := by decide +kernel
theorem dL_run_181 : decode cL_run 181 = .ok (.istore 6, 2) := by decide +kernel
theorem dL_run_183 : decode cL_run 183 = .ok (.iconst 0, 1) := by decide +kernel
theorem dL_run_184 : decode cL_run 184 = .ok (.istore 8, 2) := by decide +kernel
theorem dL_run_186 : decode cL_run 186 = .ok (.iconst 0, 1) := by decide +kernel
theorem dL_run_187 : decode cL_run 187 = .ok (.istore 9, 2) := by decide +kernel
theorem dL_run_189 : decode cL_run 189 = .ok (.iload 9, 2) := by decide +kernel
theorem dL_run_191 : decode cL_run 191 = .ok (.iload 7, 2) := by decide +kernel
theorem dL_run_193 : decode cL_run 193 = .ok (.if_icmp .ge 62, 3) := by decide +kernel
theorem dL_run_196 : decode cL_run 196 = .ok (.iload 8, 2) := by decide +kernel
theorem dL_run_198 : decode cL_run 198 = .ok (.ifCond .ne 44, 3) := by decide +kernel
theorem dL_run_201 : decode cL_run 201 = .ok (.aload 4, 2) := by decide +kernel
theorem dL_run_203 : decode cL_run 203 = .ok (.getfield 144, 3) := by decide +kernel
theorem dL_run_206 : decode cL_run 206 = .ok (.iload 9, 2) := by decide +kernel
theorem dL_run_208 : decode cL_run 208 = .ok (.iaload, 1) := by decide +kernel
theorem dL_run_209 : decode cL_run 209 = .ok (.ifCond .ne 37, 3) := by decide +kernel
theorem dL_run_212 : decode cL_run 212 = .ok (.aload 4, 2) := by decide +kernel
theorem dL_run_214 : decode cL_run 214 = .ok (.getfield 144, 3) := by decide +kernel
theorem dL_run_217 : decode cL_run 217 = .ok (.iload 7, 2) := by decide +kernel
theorem dL_run_219 : decode cL_run 219 = .ok (.iaload, 1) := by decide +kernel
theorem dL_run_220 : decode cL_run 220 = .ok (.ifCond .ne 26, 3) := by decide +kernel
theorem dL_run_223 : decode cL_run 223 = .ok (.aload 4, 2) := by decide +kernel
theorem dL_run_225 : decode cL_run 225 = .ok (.getfield 147, 3) := by decide +kernel
theorem dL_run_228 : decode cL_run 228 = .ok (.iload 9, 2) := by decide +kernel
theorem dL_run_230 : decode cL_run 230 = .ok (.iaload, 1) := by decide +kernel
theorem dL_run_231 : decode cL_run 231 = .ok (.aload 4, 2) := by decide +kernel
theorem dL_run_233 : decode cL_run 233 = .ok (.getfield 147, 3) := by decide +kernel
theorem dL_run_236 : decode cL_run 236 = .ok (.iload 7, 2) := by decide +kernel
theorem dL_run_238 : decode cL_run 238 = .ok (.iaload, 1) := by decide +kernel
theorem dL_run_239 : decode cL_run 239 = .ok (.if_icmp .ne 7, 3) := by decide +kernel
theorem dL_run_242 : decode cL_run 242 = .ok (.iconst 1, 1) := by decide +kernel
theorem dL_run_243 : decode cL_run 243 = .ok (.goto 4, 3) := by decide +kernel
theorem dL_run_246 : decode cL_run 246 = .ok (.iconst 0, 1) := by decide +kernel
theorem dL_run_247 : decode cL_run 247 = .ok (.istore 8, 2) := by decide +kernel
theorem dL_run_249 : decode cL_run 249 = .ok (.iinc 9 1, 3) := by decide +kernel
theorem dL_run_252 : decode cL_run 252 = .ok (.goto (-63), 3) := by decide +kernel
theorem dL_run_255 : decode cL_run 255 = .ok (.iload 5, 2) := by decide +kernel
theorem dL_run_257 : decode cL_run 257 = .ok (.iload 8, 2) := by decide +kernel
theorem dL_run_259 : decode cL_run 259 = .ok (.ifCond .eq 7, 3) := by decide +kernel
theorem dL_run_262 : decode cL_run 262 = .ok (.iconst 1, 1) := by decide +kernel
theorem dL_run_263 : decode cL_run 263 = .ok (.goto 4, 3) := by decide +kernel
theorem dL_run_266 : decode cL_run 266 = .ok (.iconst 0, 1) := by decide +kernel
theorem dL_run_267 : decode cL_run 267 = .ok (.iadd, 1) := by decide +kernel
theorem dL_run_268 : decode cL_run 268 = .ok (.istore 5, 2) := by decide +kernel
theorem dL_run_270 : decode cL_run 270 = .ok (.iinc 7 1, 3) := by decide +kernel
theorem dL_run_273 : decode cL_run 273 = .ok (.goto (-113), 3) := by decide +kernel
theorem dL_run_276 : decode cL_run 276 = .ok (.iconst 0, 1) := by decide +kernel
theorem dL_run_277 : decode cL_run 277 = .ok (.istore 7, 2) := by decide +kernel
theorem dL_run_279 : decode cL_run 279 = .ok (.iconst 0, 1) := by decide +kernel
theorem dL_run_280 : decode cL_run 280 = .ok (.istore 8, 2) := by decide +kernel
theorem dL_run_282 : decode cL_run 282 = .ok (.iload 8, 2) := by decide +kernel
theorem dL_run_284 : decode cL_run 284 = .ok (.sipush 144, 3) := by decide +kernel
theorem dL_run_287 : decode cL_run 287 = .ok (.if_icmp .ge 30, 3) := by decide +kernel
theorem dL_run_290 : decode cL_run 290 = .ok (.iload 7, 2) := by decide +kernel
theorem dL_run_292 : decode cL_run 292 = .ok (.aload 4, 2) := by decide +kernel
theorem dL_run_294 : decode cL_run 294 = .ok (.getfield 150, 3) := by decide +kernel
theorem dL_run_297 : decode cL_run 297 = .ok (.iload 8, 2) := by decide +kernel
theorem dL_run_299 : decode cL_run 299 = .ok (.baload, 1) := by decide +kernel
theorem dL_run_300 : decode cL_run 300 = .ok (.ifCond .eq 7, 3) := by decide +kernel
theorem dL_run_303 : decode cL_run 303 = .ok (.iconst 1, 1) := by decide +kernel
theorem dL_run_304 : decode cL_run 304 = .ok (.goto 4, 3) := by decide +kernel
theorem dL_run_307 : decode cL_run 307 = .ok (.iconst 0, 1) := by decide +kernel
theorem dL_run_308 : decode cL_run 308 = .ok (.iadd, 1) := by decide +kernel
theorem dL_run_309 : decode cL_run 309 = .ok (.istore 7, 2) := by decide +kernel
theorem dL_run_311 : decode cL_run 311 = .ok (.iinc 8 1, 3) := by decide +kernel
theorem dL_run_314 : decode cL_run 314 = .ok (.goto (-32), 3) := by decide +kernel
theorem dL_run_317 : decode cL_run 317 = .ok (.iconst 0, 1) := by decide +kernel
theorem dL_run_318 : decode cL_run 318 = .ok (.istore 8, 2) := by decide +kernel
theorem dL_run_320 : decode cL_run 320 = .ok (.iconst 0, 1) := by decide +kernel
theorem dL_run_321 : decode cL_run 321 = .ok (.istore 9, 2) := by decide +kernel
theorem dL_run_323 : decode cL_run 323 = .ok (.iload 9, 2) := by decide +kernel
theorem dL_run_325 : decode cL_run 325 = .ok (.iconst 4, 1) := by decide +kernel
theorem dL_run_326 : decode cL_run 326 = .ok (.if_icmp .ge 32, 3) := by decide +kernel
theorem dL_run_329 : decode cL_run 329 = .ok (.iload 8, 2) := by decide +kernel
theorem dL_run_331 : decode cL_run 331 = .ok (.aload 4, 2) := by decide +kernel
theorem dL_run_333 : decode cL_run 333 = .ok (.iload 9, 2) := by decide +kernel
theorem dL_run_335 : decode cL_run 335 = .ok (.invokevirtual 153, 3) := by decide +kernel
theorem dL_run_338 : decode cL_run 338 = .ok (.ifCond .eq 10, 3) := by decide +kernel
theorem dL_run_341 : decode cL_run 341 = .ok (.iconst 1, 1) := by decide +kernel
theorem dL_run_342 : decode cL_run 342 = .ok (.iload 9, 2) := by decide +kernel
theorem dL_run_344 : decode cL_run 344 = .ok (.ishl, 1) := by decide +kernel
theorem dL_run_345 : decode cL_run 345 = .ok (.goto 4, 3) := by decide +kernel
theorem dL_run_348 : decode cL_run 348 = .ok (.iconst 0, 1) := by decide +kernel
theorem dL_run_349 : decode cL_run 349 = .ok (.ior, 1) := by decide +kernel
theorem dL_run_350 : decode cL_run 350 = .ok (.istore 8, 2) := by decide +kernel
theorem dL_run_352 : decode cL_run 352 = .ok (.iinc 9 1, 3) := by decide +kernel
theorem dL_run_355 : decode cL_run 355 = .ok (.goto (-32), 3) := by decide +kernel
theorem dL_run_358 : decode cL_run 358 = .ok (.bipush 8, 2) := by decide +kernel
theorem dL_run_360 : decode cL_run 360 = .ok (.newarray .int, 2) := by decide +kernel
theorem dL_run_362 : decode cL_run 362 = .ok (.dup, 1) := by decide +kernel
theorem dL_run_363 : decode cL_run 363 = .ok (.iconst 0, 1) := by decide +kernel
theorem dL_run_364 : decode cL_run 364 = .ok (.aload 4, 2) := by decide +kernel
theorem dL_run_366 : decode cL_run 366 = .ok (.getfield 157, 3) := by decide +kernel
theorem dL_run_369 : decode cL_run 369 = .ok (.iastore, 1) := by decide +kernel
theorem dL_run_370 : decode cL_run 370 = .ok (.dup, 1) := by decide +kernel
theorem dL_run_371 : decode cL_run 371 = .ok (.iconst 1, 1) := by decide +kernel
theorem dL_run_372 : decode cL_run 372 = .ok (.aload 4, 2) := by decide +kernel
theorem dL_run_374 : decode cL_run 374 = .ok (.getfield 140, 3) := by decide +kernel
theorem dL_run_377 : decode cL_run 377 = .ok (.iastore, 1) := by decide +kernel
theorem dL_run_378 : decode cL_run 378 = .ok (.dup, 1) := by decide +kernel
theorem dL_run_379 : decode cL_run 379 = .ok (.iconst 2, 1) := by decide +kernel
theorem dL_run_380 : decode cL_run 380 = .ok (.aload 4, 2) := by decide +kernel
theorem dL_run_382 : decode cL_run 382 = .ok (.getfield 160, 3) := by decide +kernel
theorem dL_run_385 : decode cL_run 385 = .ok (.iastore, 1) := by decide +kernel
theorem dL_run_386 : decode cL_run 386 = .ok (.dup, 1) := by decide +kernel
theorem dL_run_387 : decode cL_run 387 = .ok (.iconst 3, 1) := by decide +kernel
theorem dL_run_388 : decode cL_run 388 = .ok (.aload 4, 2) := by decide +kernel
theorem dL_run_390 : decode cL_run 390 = .ok (.getfield 163, 3) := by decide +kernel
theorem dL_run_393 : decode cL_run 393 = .ok (.iastore, 1) := by decide +kernel
theorem dL_run_394 : decode cL_run 394 = .ok (.dup, 1) := by decide +kernel
theorem dL_run_395 : decode cL_run 395 = .ok (.iconst 4, 1) := by decide +kernel
theorem dL_run_396 : decode cL_run 396 = .ok (.iload 5, 2) := by decide +kernel
theorem dL_run_398 : decode cL_run 398 = .ok (.iastore, 1) := by decide +kernel
theorem dL_run_399 : decode cL_run 399 = .ok (.dup, 1) := by decide +kernel
theorem dL_run_400 : decode cL_run 400 = .ok (.iconst 5, 1) := by decide +kernel
theorem dL_run_401 : decode cL_run 401 = .ok (.iload 6, 2) := by decide +kernel
theorem dL_run_403 : decode cL_run 403 = .ok (.iastore, 1) := by decide +kernel
theorem dL_run_404 : decode cL_run 404 = .ok (.dup, 1) := by decide +kernel
theorem dL_run_405 : decode cL_run 405 = .ok (.bipush 6, 2) := by decide +kernel
theorem dL_run_407 : decode cL_run 407 = .ok (.iload 7, 2) := by decide +kernel
theorem dL_run_409 : decode cL_run 409 = .ok (.iastore, 1) := by decide +kernel
theorem dL_run_410 : decode cL_run 410 = .ok (.dup, 1) := by decide +kernel
theorem dL_run_411 : decode cL_run 411 = .ok (.bipush 7, 2) := by decide +kernel
theorem dL_run_413 : decode cL_run 413 = .ok (.iload 8, 2) := by decide +kernel
theorem dL_run_415 : decode cL_run 415 = .ok (.iastore, 1) := by decide +kernel
theorem dL_run_416 : decode cL_run 416 = .ok (.astore 9, 2) := by decide +kernel
theorem dL_run_418 : decode cL_run 418 = .ok (.iconst 0, 1) := by decide +kernel
theorem dL_run_419 : decode cL_run 419 = .ok (.istore 10, 2) := by decide +kernel
theorem dL_run_421 : decode cL_run 421 = .ok (.iload 10, 2) := by decide +kernel
theorem dL_run_423 : decode cL_run 423 = .ok (.bipush 8, 2) := by decide +kernel
theorem dL_run_425 : decode cL_run 425 = .ok (.if_icmp .ge 25, 3) := by decide +kernel
theorem dL_run_428 : decode cL_run 428 = .ok (.aload_n 0, 1) := by decide +kernel
theorem dL_run_429 : decode cL_run 429 = .ok (.iload 10, 2) := by decide +kernel
theorem dL_run_431 : decode cL_run 431 = .ok (.invokevirtual 166, 3) := by decide +kernel
theorem dL_run_434 : decode cL_run 434 = .ok (.aload 9, 2) := by decide +kernel
theorem dL_run_436 : decode cL_run 436 = .ok (.iload 10, 2) := by decide +kernel
theorem dL_run_438 : decode cL_run 438 = .ok (.iaload, 1) := by decide +kernel
theorem dL_run_439 : decode cL_run 439 = .ok (.if_icmp .eq 5, 3) := by decide +kernel
theorem dL_run_442 : decode cL_run 442 = .ok (.iconst 0, 1) := by decide +kernel
theorem dL_run_443 : decode cL_run 443 = .ok (.ireturn, 1) := by decide +kernel
theorem dL_run_444 : decode cL_run 444 = .ok (.iinc 10 1, 3) := by decide +kernel
theorem dL_run_447 : decode cL_run 447 = .ok (.goto (-26), 3) := by decide +kernel
theorem dL_run_450 : decode cL_run 450 = .ok (.iconst 0, 1) := by decide +kernel
theorem dL_run_451 : decode cL_run 451 = .ok (.istore 10, 2) := by decide +kernel
theorem dL_run_453 : decode cL_run 453 = .ok (.iload 10, 2) := by decide +kernel
theorem dL_run_455 : decode cL_run 455 = .ok (.iconst 5, 1) := by decide +kernel
theorem dL_run_456 : decode cL_run 456 = .ok (.if_icmp .ge 263, 3) := by decide +kernel
theorem dL_run_459 : decode cL_run 459 = .ok (.aload_n 3, 1) := by decide +kernel
theorem dL_run_460 : decode cL_run 460 = .ok (.aload 4, 2) := by decide +kernel
theorem dL_run_462 : decode cL_run 462 = .ok (.getfield 140, 3) := by decide +kernel
theorem dL_run_465 : decode cL_run 465 = .ok (.iconst 2, 1) := by decide +kernel
theorem dL_run_466 : decode cL_run 466 = .ok (.iadd, 1) := by decide +kernel
theorem dL_run_467 : decode cL_run 467 = .ok (.invokestatic 35, 3) := by decide +kernel
theorem dL_run_470 : decode cL_run 470 = .ok (.istore 11, 2) := by decide +kernel
theorem dL_run_472 : decode cL_run 472 = .ok (.iload 11, 2) := by decide +kernel
theorem dL_run_474 : decode cL_run 474 = .ok (.aload 4, 2) := by decide +kernel
theorem dL_run_476 : decode cL_run 476 = .ok (.getfield 140, 3) := by decide +kernel
theorem dL_run_479 : decode cL_run 479 = .ok (.if_icmp .ge 7, 3) := by decide +kernel
theorem dL_run_482 : decode cL_run 482 = .ok (.iconst 1, 1) := by decide +kernel
theorem dL_run_483 : decode cL_run 483 = .ok (.goto 4, 3) := by decide +kernel
theorem dL_run_486 : decode cL_run 486 = .ok (.iconst 0, 1) := by decide +kernel
theorem dL_run_487 : decode cL_run 487 = .ok (.istore 12, 2) := by decide +kernel
theorem dL_run_489 : decode cL_run 489 = .ok (.aload_n 0, 1) := by decide +kernel
theorem dL_run_490 : decode cL_run 490 = .ok (.iload 11, 2) := by decide +kernel
theorem dL_run_492 : decode cL_run 492 = .ok (.iconst 0, 1) := by decide +kernel
theorem dL_run_493 : decode cL_run 493 = .ok (.invokevirtual 169, 3) := by decide +kernel
theorem dL_run_496 : decode cL_run 496 = .ok (.iload 12, 2) := by decide +kernel
theorem dL_run_498 : decode cL_run 498 = .ok (.ifCond .eq 14, 3) := by decide +kernel
theorem dL_run_501 : decode cL_run 501 = .ok (.aload 4, 2) := by decide +kernel
theorem dL_run_503 : decode cL_run 503 = .ok (.getfield 171, 3) := by decide +kernel
theorem dL_run_506 : decode cL_run 506 = .ok (.iload 11, 2) := by decide +kernel
theorem dL_run_508 : decode cL_run 508 = .ok (.iaload, 1) := by decide +kernel
theorem dL_run_509 : decode cL_run 509 = .ok (.goto 4, 3) := by decide +kernel
theorem dL_run_512 : decode cL_run 512 = .ok (.iconst (-1), 1) := by decide +kernel
theorem dL_run_513 : decode cL_run 513 = .ok (.if_icmp .ne 111, 3) := by decide +kernel
theorem dL_run_516 : decode cL_run 516 = .ok (.aload_n 0, 1) := by decide +kernel
theorem dL_run_517 : decode cL_run 517 = .ok (.iload 11, 2) := by decide +kernel
theorem dL_run_519 : decode cL_run 519 = .ok (.iconst 1, 1) := by decide +kernel
theorem dL_run_520 : decode cL_run 520 = .ok (.invokevirtual 169, 3) := by decide +kernel
theorem dL_run_523 : decode cL_run 523 = .ok (.iload 12, 2) := by decide +kernel
theorem dL_run_525 : decode cL_run 525 = .ok (.ifCond .eq 14, 3) := by decide +kernel
theorem dL_run_528 : decode cL_run 528 = .ok (.aload 4, 2) := by decide +kernel
theorem dL_run_530 : decode cL_run 530 = .ok (.getfield 144, 3) := by decide +kernel
theorem dL_run_533 : decode cL_run 533 = .ok (.iload 11, 2) := by decide +kernel
theorem dL_run_535 : decode cL_run 535 = .ok (.iaload, 1) := by decide +kernel
theorem dL_run_536 : decode cL_run 536 = .ok (.goto 4, 3) := by decide +kernel
theorem dL_run_539 : decode cL_run 539 = .ok (.iconst (-1), 1) := by decide +kernel
theorem dL_run_540 : decode cL_run 540 = .ok (.if_icmp .ne 84, 3) := by decide +kernel
theorem dL_run_543 : decode cL_run 543 = .ok (.aload_n 0, 1) := by decide +kernel
theorem dL_run_544 : decode cL_run 544 = .ok (.iload 11, 2) := by decide +kernel
theorem dL_run_546 : decode cL_run 546 = .ok (.iconst 2, 1) := by decide +kernel
theorem dL_run_547 : decode cL_run 547 = .ok (.invokevirtual 169, 3) := by decide +kernel
theorem dL_run_550 : decode cL_run 550 = .ok (.iload 12, 2) := by decide +kernel
theorem dL_run_552 : decode cL_run 552 = .ok (.ifCond .eq 14, 3) := by decide +kernel
theorem dL_run_555 : decode cL_run 555 = .ok (.aload 4, 2) := by decide +kernel
theorem dL_run_557 : decode cL_run 557 = .ok (.getfield 147, 3) := by decide +kernel
theorem dL_run_560 : decode cL_run 560 = .ok (.iload 11, 2) := by decide +kernel
theorem dL_run_562 : decode cL_run 562 = .ok (.iaload, 1) := by decide +kernel
theorem dL_run_563 : decode cL_run 563 = .ok (.goto 4, 3) := by decide +kernel
theorem dL_run_566 : decode cL_run 566 = .ok (.iconst (-1), 1) := by decide +kernel
theorem dL_run_567 : decode cL_run 567 = .ok (.if_icmp .ne 57, 3) := by decide +kernel
theorem dL_run_570 : decode cL_run 570 = .ok (.aload_n 0, 1) := by decide +kernel
theorem dL_run_571 : decode cL_run 571 = .ok (.iload 11, 2) := by decide +kernel
theorem dL_run_573 : decode cL_run 573 = .ok (.iconst 3, 1) := by decide +kernel
theorem dL_run_574 : decode cL_run 574 = .ok (.invokevirtual 169, 3) := by decide +kernel
theorem dL_run_577 : decode cL_run 577 = .ok (.iload 12, 2) := by decide +kernel
theorem dL_run_579 : decode cL_run 579 = .ok (.ifCond .eq 14, 3) := by decide +kernel
theorem dL_run_582 : decode cL_run 582 = .ok (.aload 4, 2) := by decide +kernel
theorem dL_run_584 : decode cL_run 584 = .ok (.getfield 174, 3) := by decide +kernel
theorem dL_run_587 : decode cL_run 587 = .ok (.iload 11, 2) := by decide +kernel
theorem dL_run_589 : decode cL_run 589 = .ok (.iaload, 1) := by decide +kernel
theorem dL_run_590 : decode cL_run 590 = .ok (.goto 4, 3) := by decide +kernel
theorem dL_run_593 : decode cL_run 593 = .ok (.iconst (-1), 1) := by decide +kernel
theorem dL_run_594 : decode cL_run 594 = .ok (.if_icmp .ne 30, 3) := by decide +kernel
theorem dL_run_597 : decode cL_run 597 = .ok (.aload_n 0, 1) := by decide +kernel
theorem dL_run_598 : decode cL_run 598 = .ok (.iload 11, 2) := by decide +kernel
theorem dL_run_600 : decode cL_run 600 = .ok (.iconst 4, 1) := by decide +kernel
theorem dL_run_601 : decode cL_run 601 = .ok (.invokevirtual 169, 3) := by decide +kernel
theorem dL_run_604 : decode cL_run 604 = .ok (.iload 12, 2) := by decide +kernel
theorem dL_run_606 : decode cL_run 606 = .ok (.ifCond .eq 14, 3) := by decide +kernel
theorem dL_run_609 : decode cL_run 609 = .ok (.aload 4, 2) := by decide +kernel
theorem dL_run_611 : decode cL_run 611 = .ok (.getfield 177, 3) := by decide +kernel
theorem dL_run_614 : decode cL_run 614 = .ok (.iload 11, 2) := by decide +kernel
theorem dL_run_616 : decode cL_run 616 = .ok (.iaload, 1) := by decide +kernel
theorem dL_run_617 : decode cL_run 617 = .ok (.goto 4, 3) := by decide +kernel
theorem dL_run_620 : decode cL_run 620 = .ok (.iconst (-1), 1) := by decide +kernel
theorem dL_run_621 : decode cL_run 621 = .ok (.if_icmp .eq 5, 3) := by decide +kernel
theorem dL_run_624 : decode cL_run 624 = .ok (.iconst 0, 1) := by decide +kernel
theorem dL_run_625 : decode cL_run 625 = .ok (.ireturn, 1) := by decide +kernel
theorem dL_run_626 : decode cL_run 626 = .ok (.aload_n 3, 1) := by decide +kernel
theorem dL_run_627 : decode cL_run 627 = .ok (.aload 4, 2) := by decide +kernel
theorem dL_run_629 : decode cL_run 629 = .ok (.getfield 160, 3) := by decide +kernel
theorem dL_run_632 : decode cL_run 632 = .ok (.iconst 2, 1) := by decide +kernel
theorem dL_run_633 : decode cL_run 633 = .ok (.iadd, 1) := by decide +kernel
theorem dL_run_634 : decode cL_run 634 = .ok (.invokestatic 35, 3) := by decide +kernel
theorem dL_run_637 : decode cL_run 637 = .ok (.istore 13, 2) := by decide +kernel
theorem dL_run_639 : decode cL_run 639 = .ok (.aload_n 3, 1) := by decide +kernel
theorem dL_run_640 : decode cL_run 640 = .ok (.bipush 9, 2) := by decide +kernel
theorem dL_run_642 : decode cL_run 642 = .ok (.invokestatic 35, 3) := by decide +kernel
theorem dL_run_645 : decode cL_run 645 = .ok (.istore 14, 2) := by decide +kernel
theorem dL_run_647 : decode cL_run 647 = .ok (.aload_n 3, 1) := by decide +kernel
theorem dL_run_648 : decode cL_run 648 = .ok (.bipush 16, 2) := by decide +kernel
theorem dL_run_650 : decode cL_run 650 = .ok (.invokestatic 35, 3) := by decide +kernel
theorem dL_run_653 : decode cL_run 653 = .ok (.istore 15, 2) := by decide +kernel
theorem dL_run_655 : decode cL_run 655 = .ok (.aload_n 0, 1) := by decide +kernel
theorem dL_run_656 : decode cL_run 656 = .ok (.iload 13, 2) := by decide +kernel
theorem dL_run_658 : decode cL_run 658 = .ok (.invokevirtual 180, 3) := by decide +kernel
theorem dL_run_661 : decode cL_run 661 = .ok (.iload 13, 2) := by decide +kernel
theorem dL_run_663 : decode cL_run 663 = .ok (.aload 4, 2) := by decide +kernel
theorem dL_run_665 : decode cL_run 665 = .ok (.getfield 160, 3) := by decide +kernel
theorem dL_run_668 : decode cL_run 668 = .ok (.if_icmp .ge 14, 3) := by decide +kernel
theorem dL_run_671 : decode cL_run 671 = .ok (.aload 4, 2) := by decide +kernel
theorem dL_run_673 : decode cL_run 673 = .ok (.getfield 183, 3) := by decide +kernel
theorem dL_run_676 : decode cL_run 676 = .ok (.iload 13, 2) := by decide +kernel
theorem dL_run_678 : decode cL_run 678 = .ok (.iaload, 1) := by decide +kernel
theorem dL_run_679 : decode cL_run 679 = .ok (.goto 4, 3) := by decide +kernel
theorem dL_run_682 : decode cL_run 682 = .ok (.iconst (-1), 1) := by decide +kernel
theorem dL_run_683 : decode cL_run 683 = .ok (.if_icmp .ne 28, 3) := by decide +kernel
theorem dL_run_686 : decode cL_run 686 = .ok (.aload_n 0, 1) := by decide +kernel
theorem dL_run_687 : decode cL_run 687 = .ok (.iload 14, 2) := by decide +kernel
theorem dL_run_689 : decode cL_run 689 = .ok (.iload 15, 2) := by decide +kernel
theorem dL_run_691 : decode cL_run 691 = .ok (.invokevirtual 186, 3) := by decide +kernel
theorem dL_run_694 : decode cL_run 694 = .ok (.aload 4, 2) := by decide +kernel
theorem dL_run_696 : decode cL_run 696 = .ok (.getfield 150, 3) := by decide +kernel
theorem dL_run_699 : decode cL_run 699 = .ok (.bipush 16, 2) := by decide +kernel
theorem dL_run_701 : decode cL_run 701 = .ok (.iload 14, 2) := by decide +kernel
theorem dL_run_703 : decode cL_run 703 = .ok (.imul, 1) := by decide +kernel
theorem dL_run_704 : decode cL_run 704 = .ok (.iload 15, 2) := by decide +kernel
theorem dL_run_706 : decode cL_run 706 = .ok (.iadd, 1) := by decide +kernel
theorem dL_run_707 : decode cL_run 707 = .ok (.baload, 1) := by decide +kernel
theorem dL_run_708 : decode cL_run 708 = .ok (.if_icmp .eq 5, 3) := by decide +kernel
theorem dL_run_711 : decode cL_run 711 = .ok (.iconst 0, 1) := by decide +kernel
theorem dL_run_712 : decode cL_run 712 = .ok (.ireturn, 1) := by decide +kernel
theorem dL_run_713 : decode cL_run 713 = .ok (.iinc 10 1, 3) := by decide +kernel
theorem dL_run_716 : decode cL_run 716 = .ok (.goto (-263), 3) := by decide +kernel
theorem dL_run_719 : decode cL_run 719 = .ok (.iconst 1, 1) := by decide +kernel
theorem dL_run_720 : decode cL_run 720 = .ok (.ireturn, 1) := by decide +kernel
theorem dL_least_0 : decode cL_least 0 = .ok (.aload_n 0, 1) := by decide +kernel
theorem dL_least_1 : decode cL_least 1 = .ok (.iload_n 2, 1) := by decide +kernel
theorem dL_least_2 : decode cL_least 2 = .ok (.invokevirtual 134, 3) := by decide +kernel
theorem dL_least_5 : decode cL_least 5 = .ok (.istore 4, 2) := by decide +kernel
theorem dL_least_7 : decode cL_least 7 = .ok (.iload 4, 2) := by decide +kernel
theorem dL_least_9 : decode cL_least 9 = .ok (.sipush 1000, 3) := by decide +kernel
theorem dL_least_12 : decode cL_least 12 = .ok (.irem, 1) := by decide +kernel
theorem dL_least_13 : decode cL_least 13 = .ok (.iconst 2, 1) := by decide +kernel
theorem dL_least_14 : decode cL_least 14 = .ok (.if_icmp .eq 5, 3) := by decide +kernel
theorem dL_least_17 : decode cL_least 17 = .ok (.iconst (-1), 1) := by decide +kernel
theorem dL_least_18 : decode cL_least 18 = .ok (.ireturn, 1) := by decide +kernel
theorem dL_least_19 : decode cL_least 19 = .ok (.aload_n 0, 1) := by decide +kernel
theorem dL_least_20 : decode cL_least 20 = .ok (.invokevirtual 190, 3) := by decide +kernel
theorem dL_least_23 : decode cL_least 23 = .ok (.astore 5, 2) := by decide +kernel
theorem dL_least_25 : decode cL_least 25 = .ok (.iconst 1, 1) := by decide +kernel
theorem dL_least_26 : decode cL_least 26 = .ok (.istore 6, 2) := by decide +kernel
theorem dL_least_28 : decode cL_least 28 = .ok (.iload 6, 2) := by decide +kernel
theorem dL_least_30 : decode cL_least 30 = .ok (.aload_n 0, 1) := by decide +kernel
theorem dL_least_31 : decode cL_least 31 = .ok (.getfield 87, 3) := by decide +kernel
theorem dL_least_34 : decode cL_least 34 = .ok (.iload 4, 2) := by decide +kernel
theorem dL_least_36 : decode cL_least 36 = .ok (.sipush 1000, 3) := by decide +kernel
theorem dL_least_39 : decode cL_least 39 = .ok (.idiv, 1) := by decide +kernel
theorem dL_least_40 : decode cL_least 40 = .ok (.iaload, 1) := by decide +kernel
theorem dL_least_41 : decode cL_least 41 = .ok (.if_icmp .gt 39, 3) := by decide +kernel
theorem dL_least_44 : decode cL_least 44 = .ok (.aload 5, 2) := by decide +kernel
theorem dL_least_46 : decode cL_least 46 = .ok (.getfield 87, 3) := by decide +kernel
theorem dL_least_49 : decode cL_least 49 = .ok (.iload 4, 2) := by decide +kernel
theorem dL_least_51 : decode cL_least 51 = .ok (.sipush 1000, 3) := by decide +kernel
theorem dL_least_54 : decode cL_least 54 = .ok (.idiv, 1) := by decide +kernel
theorem dL_least_55 : decode cL_least 55 = .ok (.iload 6, 2) := by decide +kernel
theorem dL_least_57 : decode cL_least 57 = .ok (.iastore, 1) := by decide +kernel
theorem dL_least_58 : decode cL_least 58 = .ok (.aload_n 1, 1) := by decide +kernel
theorem dL_least_59 : decode cL_least 59 = .ok (.aload 5, 2) := by decide +kernel
theorem dL_least_61 : decode cL_least 61 = .ok (.invokevirtual 124, 3) := by decide +kernel
theorem dL_least_64 : decode cL_least 64 = .ok (.iload_n 3, 1) := by decide +kernel
theorem dL_least_65 : decode cL_least 65 = .ok (.invokevirtual 153, 3) := by decide +kernel
theorem dL_least_68 : decode cL_least 68 = .ok (.ifCond .eq 6, 3) := by decide +kernel
theorem dL_least_71 : decode cL_least 71 = .ok (.iload 6, 2) := by decide +kernel
theorem dL_least_73 : decode cL_least 73 = .ok (.ireturn, 1) := by decide +kernel
theorem dL_least_74 : decode cL_least 74 = .ok (.iinc 6 1, 3) := by decide +kernel
theorem dL_least_77 : decode cL_least 77 = .ok (.goto (-49), 3) := by decide +kernel
theorem dL_least_80 : decode cL_least 80 = .ok (.iconst (-1), 1) := by decide +kernel
theorem dL_least_81 : decode cL_least 81 = .ok (.ireturn, 1) := by decide +kernel
theorem dL_core_0 : decode cL_core 0 = .ok (.iconst (-1), 1) := by decide +kernel
theorem dL_core_1 : decode cL_core 1 = .ok (.istore_n 3, 1) := by decide +kernel
theorem dL_core_2 : decode cL_core 2 = .ok (.iconst 0, 1) := by decide +kernel
theorem dL_core_3 : decode cL_core 3 = .ok (.istore 4, 2) := by decide +kernel
theorem dL_core_5 : decode cL_core 5 = .ok (.iload 4, 2) := by decide +kernel
theorem dL_core_7 : decode cL_core 7 = .ok (.iconst 1, 1) := by decide +kernel
theorem dL_core_8 : decode cL_core 8 = .ok (.aload_n 0, 1) := by decide +kernel
theorem dL_core_9 : decode cL_core 9 = .ok (.invokevirtual 131, 3) := by decide +kernel
theorem dL_core_12 : decode cL_core 12 = .ok (.ishl, 1) := by decide +kernel
theorem dL_core_13 : decode cL_core 13 = .ok (.if_icmp .ge 76, 3) := by decide +kernel
theorem dL_core_16 : decode cL_core 16 = .ok (.iload_n 3, 1) := by decide +kernel
theorem dL_core_17 : decode cL_core 17 = .ok (.ifCond .lt 46, 3) := by decide +kernel
theorem dL_core_20 : decode cL_core 20 = .ok (.iload 4, 2) := by decide +kernel
theorem dL_core_22 : decode cL_core 22 = .ok (.invokestatic 194, 3) := by decide +kernel
theorem dL_core_25 : decode cL_core 25 = .ok (.iload_n 3, 1) := by decide +kernel
theorem dL_core_26 : decode cL_core 26 = .ok (.invokestatic 194, 3) := by decide +kernel
theorem dL_core_29 : decode cL_core 29 = .ok (.if_icmp .gt 54, 3) := by decide +kernel
theorem dL_core_32 : decode cL_core 32 = .ok (.iload 4, 2) := by decide +kernel
theorem dL_core_34 : decode cL_core 34 = .ok (.invokestatic 194, 3) := by decide +kernel
theorem dL_core_37 : decode cL_core 37 = .ok (.iload_n 3, 1) := by decide +kernel
theorem dL_core_38 : decode cL_core 38 = .ok (.invokestatic 194, 3) := by decide +kernel
theorem dL_core_41 : decode cL_core 41 = .ok (.if_icmp .ne 22, 3) := by decide +kernel
theorem dL_core_44 : decode cL_core 44 = .ok (.iload 4, 2) := by decide +kernel
theorem dL_core_46 : decode cL_core 46 = .ok (.invokestatic 199, 3) := by decide +kernel
theorem dL_core_49 : decode cL_core 49 = .ok (.iconst 1, 1) := by decide +kernel
theorem dL_core_50 : decode cL_core 50 = .ok (.iushr, 1) := by decide +kernel
theorem dL_core_51 : decode cL_core 51 = .ok (.iload_n 3, 1) := by decide +kernel
theorem dL_core_52 : decode cL_core 52 = .ok (.invokestatic 199, 3) := by decide +kernel
theorem dL_core_55 : decode cL_core 55 = .ok (.iconst 1, 1) := by decide +kernel
theorem dL_core_56 : decode cL_core 56 = .ok (.iushr, 1) := by decide +kernel
theorem dL_core_57 : decode cL_core 57 = .ok (.if_icmp .gt 6, 3) := by decide +kernel
theorem dL_core_60 : decode cL_core 60 = .ok (.goto 23, 3) := by decide +kernel
theorem dL_core_63 : decode cL_core 63 = .ok (.aload_n 1, 1) := by decide +kernel
theorem dL_core_64 : decode cL_core 64 = .ok (.aload_n 0, 1) := by decide +kernel
theorem dL_core_65 : decode cL_core 65 = .ok (.iload 4, 2) := by decide +kernel
theorem dL_core_67 : decode cL_core 67 = .ok (.invokevirtual 202, 3) := by decide +kernel
theorem dL_core_70 : decode cL_core 70 = .ok (.invokevirtual 124, 3) := by decide +kernel
theorem dL_core_73 : decode cL_core 73 = .ok (.iload_n 2, 1) := by decide +kernel
theorem dL_core_74 : decode cL_core 74 = .ok (.invokevirtual 153, 3) := by decide +kernel
theorem dL_core_77 : decode cL_core 77 = .ok (.ifCond .eq 6, 3) := by decide +kernel
theorem dL_core_80 : decode cL_core 80 = .ok (.iload 4, 2) := by decide +kernel
theorem dL_core_82 : decode cL_core 82 = .ok (.istore_n 3, 1) := by decide +kernel
theorem dL_core_83 : decode cL_core 83 = .ok (.iinc 4 1, 3) := by decide +kernel
theorem dL_core_86 : decode cL_core 86 = .ok (.goto (-81), 3) := by decide +kernel
theorem dL_core_89 : decode cL_core 89 = .ok (.iload_n 3, 1) := by decide +kernel
theorem dL_core_90 : decode cL_core 90 = .ok (.ireturn, 1) := by decide +kernel
theorem dL_asks_0 : decode cL_asks 0 = .ok (.aload 4, 2) := by decide +kernel
theorem dL_asks_2 : decode cL_asks 2 = .ok (.iconst 4, 1) := by decide +kernel
theorem dL_asks_3 : decode cL_asks 3 = .ok (.invokestatic 35, 3) := by decide +kernel
theorem dL_asks_6 : decode cL_asks 6 = .ok (.istore 5, 2) := by decide +kernel
theorem dL_asks_8 : decode cL_asks 8 = .ok (.aload_n 2, 1) := by decide +kernel
theorem dL_asks_9 : decode cL_asks 9 = .ok (.aload_n 1, 1) := by decide +kernel
theorem dL_asks_10 : decode cL_asks 10 = .ok (.invokevirtual 124, 3) := by decide +kernel
theorem dL_asks_13 : decode cL_asks 13 = .ok (.iload 5, 2) := by decide +kernel
theorem dL_asks_15 : decode cL_asks 15 = .ok (.invokevirtual 153, 3) := by decide +kernel
theorem dL_asks_18 : decode cL_asks 18 = .ok (.istore 6, 2) := by decide +kernel
theorem dL_asks_20 : decode cL_asks 20 = .ok (.aload_n 1, 1) := by decide +kernel
theorem dL_asks_21 : decode cL_asks 21 = .ok (.aload_n 2, 1) := by decide +kernel
theorem dL_asks_22 : decode cL_asks 22 = .ok (.iload 5, 2) := by decide +kernel
theorem dL_asks_24 : decode cL_asks 24 = .ok (.invokestatic 206, 3) := by decide +kernel
theorem dL_asks_27 : decode cL_asks 27 = .ok (.istore 7, 2) := by decide +kernel
theorem dL_asks_29 : decode cL_asks 29 = .ok (.aload_n 0, 1) := by decide +kernel
theorem dL_asks_30 : decode cL_asks 30 = .ok (.iload 5, 2) := by decide +kernel
theorem dL_asks_32 : decode cL_asks 32 = .ok (.invokevirtual 210, 3) := by decide +kernel
theorem dL_asks_35 : decode cL_asks 35 = .ok (.iload 6, 2) := by decide +kernel
theorem dL_asks_37 : decode cL_asks 37 = .ok (.if_icmp .ne 37, 3) := by decide +kernel
theorem dL_asks_40 : decode cL_asks 40 = .ok (.aload_n 0, 1) := by decide +kernel
theorem dL_asks_41 : decode cL_asks 41 = .ok (.iload 5, 2) := by decide +kernel
theorem dL_asks_43 : decode cL_asks 43 = .ok (.invokevirtual 211, 3) := by decide +kernel
theorem dL_asks_46 : decode cL_asks 46 = .ok (.iload 7, 2) := by decide +kernel
theorem dL_asks_48 : decode cL_asks 48 = .ok (.if_icmp .ne 26, 3) := by decide +kernel
theorem dL_asks_51 : decode cL_asks 51 = .ok (.aload_n 0, 1) := by decide +kernel
theorem dL_asks_52 : decode cL_asks 52 = .ok (.iload 5, 2) := by decide +kernel
theorem dL_asks_54 : decode cL_asks 54 = .ok (.invokevirtual 213, 3) := by decide +kernel
theorem dL_asks_57 : decode cL_asks 57 = .ok (.iload 7, 2) := by decide +kernel
theorem dL_asks_59 : decode cL_asks 59 = .ok (.ifCond .ge 7, 3) := by decide +kernel
theorem dL_asks_62 : decode cL_asks 62 = .ok (.iconst (-1), 1) := by decide +kernel
theorem dL_asks_63 : decode cL_asks 63 = .ok (.goto 8, 3) := by decide +kernel
theorem dL_asks_66 : decode cL_asks 66 = .ok (.iload 7, 2) := by decide +kernel
theorem dL_asks_68 : decode cL_asks 68 = .ok (.invokestatic 194, 3) := by decide +kernel
theorem dL_asks_71 : decode cL_asks 71 = .ok (.if_icmp .eq 5, 3) := by decide +kernel
theorem dL_asks_74 : decode cL_asks 74 = .ok (.iconst 0, 1) := by decide +kernel
theorem dL_asks_75 : decode cL_asks 75 = .ok (.ireturn, 1) := by decide +kernel
theorem dL_asks_76 : decode cL_asks 76 = .ok (.aload_n 1, 1) := by decide +kernel
theorem dL_asks_77 : decode cL_asks 77 = .ok (.invokevirtual 131, 3) := by decide +kernel
theorem dL_asks_80 : decode cL_asks 80 = .ok (.ifCond .le 88, 3) := by decide +kernel
theorem dL_asks_83 : decode cL_asks 83 = .ok (.aload 4, 2) := by decide +kernel
theorem dL_asks_85 : decode cL_asks 85 = .ok (.aload_n 1, 1) := by decide +kernel
theorem dL_asks_86 : decode cL_asks 86 = .ok (.invokevirtual 131, 3) := by decide +kernel
theorem dL_asks_89 : decode cL_asks 89 = .ok (.invokestatic 35, 3) := by decide +kernel
theorem dL_asks_92 : decode cL_asks 92 = .ok (.istore 8, 2) := by decide +kernel
theorem dL_asks_94 : decode cL_asks 94 = .ok (.aload_n 1, 1) := by decide +kernel
theorem dL_asks_95 : decode cL_asks 95 = .ok (.invokevirtual 190, 3) := by decide +kernel
theorem dL_asks_98 : decode cL_asks 98 = .ok (.astore 9, 2) := by decide +kernel
theorem dL_asks_100 : decode cL_asks 100 = .ok (.aload 9, 2) := by decide +kernel
theorem dL_asks_102 : decode cL_asks 102 = .ok (.aload_n 1, 1) := by decide +kernel
theorem dL_asks_103 : decode cL_asks 103 = .ok (.iload 8, 2) := by decide +kernel
theorem dL_asks_105 : decode cL_asks 105 = .ok (.invokevirtual 134, 3) := by decide +kernel
theorem dL_asks_108 : decode cL_asks 108 = .ok (.invokevirtual 216, 3) := by decide +kernel
theorem dL_asks_111 : decode cL_asks 111 = .ok (.aload_n 0, 1) := by decide +kernel
theorem dL_asks_112 : decode cL_asks 112 = .ok (.iload 8, 2) := by decide +kernel
theorem dL_asks_114 : decode cL_asks 114 = .ok (.iload 5, 2) := by decide +kernel
theorem dL_asks_116 : decode cL_asks 116 = .ok (.invokevirtual 220, 3) := by decide +kernel
theorem dL_asks_119 : decode cL_asks 119 = .ok (.iload 6, 2) := by decide +kernel
theorem dL_asks_121 : decode cL_asks 121 = .ok (.ifCond .eq 21, 3) := by decide +kernel
theorem dL_asks_124 : decode cL_asks 124 = .ok (.aload_n 2, 1) := by decide +kernel
theorem dL_asks_125 : decode cL_asks 125 = .ok (.aload 9, 2) := by decide +kernel
theorem dL_asks_127 : decode cL_asks 127 = .ok (.invokevirtual 124, 3) := by decide +kernel
theorem dL_asks_130 : decode cL_asks 130 = .ok (.iload 5, 2) := by decide +kernel
theorem dL_asks_132 : decode cL_asks 132 = .ok (.invokevirtual 153, 3) := by decide +kernel
theorem dL_asks_135 : decode cL_asks 135 = .ok (.ifCond .ne 7, 3) := by decide +kernel
theorem dL_asks_138 : decode cL_asks 138 = .ok (.iconst 1, 1) := by decide +kernel
theorem dL_asks_139 : decode cL_asks 139 = .ok (.goto 4, 3) := by decide +kernel
theorem dL_asks_142 : decode cL_asks 142 = .ok (.iconst 0, 1) := by decide +kernel
theorem dL_asks_143 : decode cL_asks 143 = .ok (.if_icmp .ne 23, 3) := by decide +kernel
theorem dL_asks_146 : decode cL_asks 146 = .ok (.aload_n 0, 1) := by decide +kernel
theorem dL_asks_147 : decode cL_asks 147 = .ok (.iload 8, 2) := by decide +kernel
theorem dL_asks_149 : decode cL_asks 149 = .ok (.iload 5, 2) := by decide +kernel
theorem dL_asks_151 : decode cL_asks 151 = .ok (.invokevirtual 223, 3) := by decide +kernel
theorem dL_asks_154 : decode cL_asks 154 = .ok (.aload_n 1, 1) := by decide +kernel
theorem dL_asks_155 : decode cL_asks 155 = .ok (.aload_n 2, 1) := by decide +kernel
theorem dL_asks_156 : decode cL_asks 156 = .ok (.iload 8, 2) := by decide +kernel
theorem dL_asks_158 : decode cL_asks 158 = .ok (.iload 5, 2) := by decide +kernel
theorem dL_asks_160 : decode cL_asks 160 = .ok (.invokestatic 226, 3) := by decide +kernel
theorem dL_asks_163 : decode cL_asks 163 = .ok (.if_icmp .eq 5, 3) := by decide +kernel
theorem dL_asks_166 : decode cL_asks 166 = .ok (.iconst 0, 1) := by decide +kernel
theorem dL_asks_167 : decode cL_asks 167 = .ok (.ireturn, 1) := by decide +kernel
theorem dL_asks_168 : decode cL_asks 168 = .ok (.aload_n 1, 1) := by decide +kernel
theorem dL_asks_169 : decode cL_asks 169 = .ok (.invokevirtual 190, 3) := by decide +kernel
theorem dL_asks_172 : decode cL_asks 172 = .ok (.astore 8, 2) := by decide +kernel
theorem dL_asks_174 : decode cL_asks 174 = .ok (.iconst (-1), 1) := by decide +kernel
theorem dL_asks_175 : decode cL_asks 175 = .ok (.istore 9, 2) := by decide +kernel
theorem dL_asks_177 : decode cL_asks 177 = .ok (.iconst 1, 1) := by decide +kernel
theorem dL_asks_178 : decode cL_asks 178 = .ok (.istore 10, 2) := by decide +kernel
theorem dL_asks_180 : decode cL_asks 180 = .ok (.iload 10, 2) := by decide +kernel
theorem dL_asks_182 : decode cL_asks 182 = .ok (.bipush 20, 2) := by decide +kernel
theorem dL_asks_184 : decode cL_asks 184 = .ok (.if_icmp .gt 41, 3) := by decide +kernel
theorem dL_asks_187 : decode cL_asks 187 = .ok (.iload 9, 2) := by decide +kernel
theorem dL_asks_189 : decode cL_asks 189 = .ok (.ifCond .ge 36, 3) := by decide +kernel
theorem dL_asks_192 : decode cL_asks 192 = .ok (.aload 8, 2) := by decide +kernel
theorem dL_asks_194 : decode cL_asks 194 = .ok (.getfield 39, 3) := by decide +kernel
theorem dL_asks_197 : decode cL_asks 197 = .ok (.iconst 4, 1) := by decide +kernel
theorem dL_asks_198 : decode cL_asks 198 = .ok (.iload 10, 2) := by decide +kernel
theorem dL_asks_200 : decode cL_asks 200 = .ok (.iastore, 1) := by decide +kernel
theorem dL_asks_201 : decode cL_asks 201 = .ok (.aload_n 2, 1) := by decide +kernel
theorem dL_asks_202 : decode cL_asks 202 = .ok (.aload 8, 2) := by decide +kernel
theorem dL_asks_204 : decode cL_asks 204 = .ok (.invokevirtual 124, 3) := by decide +kernel
theorem dL_asks_207 : decode cL_asks 207 = .ok (.iload 5, 2) := by decide +kernel
theorem dL_asks_209 : decode cL_asks 209 = .ok (.invokevirtual 153, 3) := by decide +kernel
theorem dL_asks_212 : decode cL_asks 212 = .ok (.ifCond .ne 7, 3) := by decide +kernel
theorem dL_asks_215 : decode cL_asks 215 = .ok (.iload 10, 2) := by decide +kernel
theorem dL_asks_217 : decode cL_asks 217 = .ok (.istore 9, 2) := by decide +kernel
theorem dL_asks_219 : decode cL_asks 219 = .ok (.iinc 10 1, 3) := by decide +kernel
theorem dL_asks_222 : decode cL_asks 222 = .ok (.goto (-42), 3) := by decide +kernel
theorem dL_asks_225 : decode cL_asks 225 = .ok (.iconst 0, 1) := by decide +kernel
theorem dL_asks_226 : decode cL_asks 226 = .ok (.istore 10, 2) := by decide +kernel
theorem dL_asks_228 : decode cL_asks 228 = .ok (.iconst 0, 1) := by decide +kernel
theorem dL_asks_229 : decode cL_asks 229 = .ok (.istore 11, 2) := by decide +kernel
theorem dL_asks_231 : decode cL_asks 231 = .ok (.iload 11, 2) := by decide +kernel
theorem dL_asks_233 : decode cL_asks 233 = .ok (.sipush 144, 3) := by decide +kernel
theorem dL_asks_236 : decode cL_asks 236 = .ok (.if_icmp .ge 26, 3) := by decide +kernel
theorem dL_asks_239 : decode cL_asks 239 = .ok (.iload 10, 2) := by decide +kernel
theorem dL_asks_241 : decode cL_asks 241 = .ok (.aload_n 3, 1) := by decide +kernel
theorem dL_asks_242 : decode cL_asks 242 = .ok (.iload 11, 2) := by decide +kernel
theorem dL_asks_244 : decode cL_asks 244 = .ok (.baload, 1) := by decide +kernel
theorem dL_asks_245 : decode cL_asks 245 = .ok (.ifCond .eq 7, 3) := by decide +kernel
theorem dL_asks_248 : decode cL_asks 248 = .ok (.iconst 1, 1) := by decide +kernel
theorem dL_asks_249 : decode cL_asks 249 = .ok (.goto 4, 3) := by decide +kernel
theorem dL_asks_252 : decode cL_asks 252 = .ok (.iconst 0, 1) := by decide +kernel
theorem dL_asks_253 : decode cL_asks 253 = .ok (.iadd, 1) := by decide +kernel
theorem dL_asks_254 : decode cL_asks 254 = .ok (.istore 10, 2) := by decide +kernel
theorem dL_asks_256 : decode cL_asks 256 = .ok (.iinc 11 1, 3) := by decide +kernel
theorem dL_asks_259 : decode cL_asks 259 = .ok (.goto (-28), 3) := by decide +kernel
theorem dL_asks_262 : decode cL_asks 262 = .ok (.aload 4, 2) := by decide +kernel
theorem dL_asks_264 : decode cL_asks 264 = .ok (.bipush 9, 2) := by decide +kernel
theorem dL_asks_266 : decode cL_asks 266 = .ok (.invokestatic 35, 3) := by decide +kernel
theorem dL_asks_269 : decode cL_asks 269 = .ok (.istore 11, 2) := by decide +kernel
theorem dL_asks_271 : decode cL_asks 271 = .ok (.aload 4, 2) := by decide +kernel
theorem dL_asks_273 : decode cL_asks 273 = .ok (.bipush 16, 2) := by decide +kernel
theorem dL_asks_275 : decode cL_asks 275 = .ok (.invokestatic 35, 3) := by decide +kernel
theorem dL_asks_278 : decode cL_asks 278 = .ok (.istore 12, 2) := by decide +kernel
theorem dL_asks_280 : decode cL_asks 280 = .ok (.aload_n 0, 1) := by decide +kernel
theorem dL_asks_281 : decode cL_asks 281 = .ok (.iload 5, 2) := by decide +kernel
theorem dL_asks_283 : decode cL_asks 283 = .ok (.invokevirtual 230, 3) := by decide +kernel
theorem dL_asks_286 : decode cL_asks 286 = .ok (.iload 9, 2) := by decide +kernel
theorem dL_asks_288 : decode cL_asks 288 = .ok (.if_icmp .ne 35, 3) := by decide +kernel
theorem dL_asks_291 : decode cL_asks 291 = .ok (.aload_n 0, 1) := by decide +kernel
theorem dL_asks_292 : decode cL_asks 292 = .ok (.bipush 10, 2) := by decide +kernel
theorem dL_asks_294 : decode cL_asks 294 = .ok (.invokevirtual 128, 3) := by decide +kernel
theorem dL_asks_297 : decode cL_asks 297 = .ok (.iload 10, 2) := by decide +kernel
theorem dL_asks_299 : decode cL_asks 299 = .ok (.if_icmp .ne 24, 3) := by decide +kernel
theorem dL_asks_302 : decode cL_asks 302 = .ok (.aload_n 0, 1) := by decide +kernel
theorem dL_asks_303 : decode cL_asks 303 = .ok (.iload 11, 2) := by decide +kernel
theorem dL_asks_305 : decode cL_asks 305 = .ok (.iload 12, 2) := by decide +kernel
theorem dL_asks_307 : decode cL_asks 307 = .ok (.invokevirtual 233, 3) := by decide +kernel
theorem dL_asks_310 : decode cL_asks 310 = .ok (.aload_n 3, 1) := by decide +kernel
theorem dL_asks_311 : decode cL_asks 311 = .ok (.bipush 16, 2) := by decide +kernel
theorem dL_asks_313 : decode cL_asks 313 = .ok (.iload 11, 2) := by decide +kernel
theorem dL_asks_315 : decode cL_asks 315 = .ok (.imul, 1) := by decide +kernel
theorem dL_asks_316 : decode cL_asks 316 = .ok (.iload 12, 2) := by decide +kernel
theorem dL_asks_318 : decode cL_asks 318 = .ok (.iadd, 1) := by decide +kernel
theorem dL_asks_319 : decode cL_asks 319 = .ok (.baload, 1) := by decide +kernel
theorem dL_asks_320 : decode cL_asks 320 = .ok (.if_icmp .eq 5, 3) := by decide +kernel
theorem dL_asks_323 : decode cL_asks 323 = .ok (.iconst 0, 1) := by decide +kernel
theorem dL_asks_324 : decode cL_asks 324 = .ok (.ireturn, 1) := by decide +kernel
theorem dL_asks_325 : decode cL_asks 325 = .ok (.aload 4, 2) := by decide +kernel
theorem dL_asks_327 : decode cL_asks 327 = .ok (.iconst 3, 1) := by decide +kernel
theorem dL_asks_328 : decode cL_asks 328 = .ok (.invokestatic 35, 3) := by decide +kernel
theorem dL_asks_331 : decode cL_asks 331 = .ok (.ifCond .gt 14, 3) := by decide +kernel
theorem dL_asks_334 : decode cL_asks 334 = .ok (.aload_n 0, 1) := by decide +kernel
theorem dL_asks_335 : decode cL_asks 335 = .ok (.aload_n 1, 1) := by decide +kernel
theorem dL_asks_336 : decode cL_asks 336 = .ok (.aload_n 2, 1) := by decide +kernel
theorem dL_asks_337 : decode cL_asks 337 = .ok (.iload 5, 2) := by decide +kernel
theorem dL_asks_339 : decode cL_asks 339 = .ok (.invokestatic 236, 3) := by decide +kernel
theorem dL_asks_342 : decode cL_asks 342 = .ok (.ifCond .eq 7, 3) := by decide +kernel
theorem dL_asks_345 : decode cL_asks 345 = .ok (.iconst 1, 1) := by decide +kernel
theorem dL_asks_346 : decode cL_asks 346 = .ok (.goto 4, 3) := by decide +kernel
theorem dL_asks_349 : decode cL_asks 349 = .ok (.iconst 0, 1) := by decide +kernel
theorem dL_asks_350 : decode cL_asks 350 = .ok (.ireturn, 1) := by decide +kernel
theorem dL_single_0 : decode cL_single 0 = .ok (.aload_n 1, 1) := by decide +kernel
theorem dL_single_1 : decode cL_single 1 = .ok (.iconst 0, 1) := by decide +kernel
theorem dL_single_2 : decode cL_single 2 = .ok (.invokevirtual 202, 3) := by decide +kernel
theorem dL_single_5 : decode cL_single 5 = .ok (.astore 4, 2) := by decide +kernel
theorem dL_single_7 : decode cL_single 7 = .ok (.aload_n 2, 1) := by decide +kernel
theorem dL_single_8 : decode cL_single 8 = .ok (.aload 4, 2) := by decide +kernel
theorem dL_single_10 : decode cL_single 10 = .ok (.invokevirtual 124, 3) := by decide +kernel
theorem dL_single_13 : decode cL_single 13 = .ok (.iload_n 3, 1) := by decide +kernel
theorem dL_single_14 : decode cL_single 14 = .ok (.invokevirtual 153, 3) := by decide +kernel
theorem dL_single_17 : decode cL_single 17 = .ok (.ifCond .eq 7, 3) := by decide +kernel
theorem dL_single_20 : decode cL_single 20 = .ok (.iconst 0, 1) := by decide +kernel
theorem dL_single_21 : decode cL_single 21 = .ok (.goto 7, 3) := by decide +kernel
theorem dL_single_24 : decode cL_single 24 = .ok (.aload_n 2, 1) := by decide +kernel
theorem dL_single_25 : decode cL_single 25 = .ok (.getfield 140, 3) := by decide +kernel
theorem dL_single_28 : decode cL_single 28 = .ok (.istore 5, 2) := by decide +kernel
theorem dL_single_30 : decode cL_single 30 = .ok (.iconst 0, 1) := by decide +kernel
theorem dL_single_31 : decode cL_single 31 = .ok (.istore 6, 2) := by decide +kernel
theorem dL_single_33 : decode cL_single 33 = .ok (.iconst (-1), 1) := by decide +kernel
theorem dL_single_34 : decode cL_single 34 = .ok (.istore 7, 2) := by decide +kernel
theorem dL_single_36 : decode cL_single 36 = .ok (.iconst 0, 1) := by decide +kernel
theorem dL_single_37 : decode cL_single 37 = .ok (.istore 8, 2) := by decide +kernel
theorem dL_single_39 : decode cL_single 39 = .ok (.iconst 0, 1) := by decide +kernel
theorem dL_single_40 : decode cL_single 40 = .ok (.istore 9, 2) := by decide +kernel
theorem dL_single_42 : decode cL_single 42 = .ok (.iload 9, 2) := by decide +kernel
theorem dL_single_44 : decode cL_single 44 = .ok (.iload 5, 2) := by decide +kernel
theorem dL_single_46 : decode cL_single 46 = .ok (.if_icmp .ge 176, 3) := by decide +kernel
theorem dL_single_49 : decode cL_single 49 = .ok (.aload 4, 2) := by decide +kernel
theorem dL_single_51 : decode cL_single 51 = .ok (.getfield 76, 3) := by decide +kernel
theorem dL_single_54 : decode cL_single 54 = .ok (.iload 9, 2) := by decide +kernel
theorem dL_single_56 : decode cL_single 56 = .ok (.iconst 1, 1) := by decide +kernel
theorem dL_single_57 : decode cL_single 57 = .ok (.bastore, 1) := by decide +kernel
theorem dL_single_58 : decode cL_single 58 = .ok (.aload_n 2, 1) := by decide +kernel
theorem dL_single_59 : decode cL_single 59 = .ok (.aload 4, 2) := by decide +kernel
theorem dL_single_61 : decode cL_single 61 = .ok (.invokevirtual 124, 3) := by decide +kernel
theorem dL_single_64 : decode cL_single 64 = .ok (.iload_n 3, 1) := by decide +kernel
theorem dL_single_65 : decode cL_single 65 = .ok (.invokevirtual 153, 3) := by decide +kernel
theorem dL_single_68 : decode cL_single 68 = .ok (.istore 10, 2) := by decide +kernel
theorem dL_single_70 : decode cL_single 70 = .ok (.aload 4, 2) := by decide +kernel
theorem dL_single_72 : decode cL_single 72 = .ok (.getfield 76, 3) := by decide +kernel
theorem dL_single_75 : decode cL_single 75 = .ok (.iload 9, 2) := by decide +kernel
theorem dL_single_77 : decode cL_single 77 = .ok (.iconst 0, 1) := by decide +kernel
theorem dL_single_78 : decode cL_single 78 = .ok (.bastore, 1) := by decide +kernel
theorem dL_single_79 : decode cL_single 79 = .ok (.iload 10, 2) := by decide +kernel
theorem dL_single_81 : decode cL_single 81 = .ok (.ifCond .eq 19, 3) := by decide +kernel
theorem dL_single_84 : decode cL_single 84 = .ok (.iinc 6 1, 3) := by decide +kernel
theorem dL_single_87 : decode cL_single 87 = .ok (.iload 7, 2) := by decide +kernel
theorem dL_single_89 : decode cL_single 89 = .ok (.ifCond .ge 11, 3) := by decide +kernel
theorem dL_single_92 : decode cL_single 92 = .ok (.sipush 1000, 3) := by decide +kernel
theorem dL_single_95 : decode cL_single 95 = .ok (.iload 9, 2) := by decide +kernel
theorem dL_single_97 : decode cL_single 97 = .ok (.imul, 1) := by decide +kernel
theorem dL_single_98 : decode cL_single 98 = .ok (.istore 7, 2) := by decide +kernel
theorem dL_single_100 : decode cL_single 100 = .ok (.aload 4, 2) := by decide +kernel
theorem dL_single_102 : decode cL_single 102 = .ok (.getfield 82, 3) := by decide +kernel
theorem dL_single_105 : decode cL_single 105 = .ok (.iload 9, 2) := by decide +kernel
theorem dL_single_107 : decode cL_single 107 = .ok (.iconst 1, 1) := by decide +kernel
theorem dL_single_108 : decode cL_single 108 = .ok (.bastore, 1) := by decide +kernel
theorem dL_single_109 : decode cL_single 109 = .ok (.iload 7, 2) := by decide +kernel
theorem dL_single_111 : decode cL_single 111 = .ok (.ifCond .ge 26, 3) := by decide +kernel
theorem dL_single_114 : decode cL_single 114 = .ok (.aload_n 2, 1) := by decide +kernel
theorem dL_single_115 : decode cL_single 115 = .ok (.aload 4, 2) := by decide +kernel
theorem dL_single_117 : decode cL_single 117 = .ok (.invokevirtual 124, 3) := by decide +kernel
theorem dL_single_120 : decode cL_single 120 = .ok (.iload_n 3, 1) := by decide +kernel
theorem dL_single_121 : decode cL_single 121 = .ok (.invokevirtual 153, 3) := by decide +kernel
theorem dL_single_124 : decode cL_single 124 = .ok (.ifCond .eq 13, 3) := by decide +kernel
theorem dL_single_127 : decode cL_single 127 = .ok (.sipush 1000, 3) := by decide +kernel
theorem dL_single_130 : decode cL_single 130 = .ok (.iload 9, 2) := by decide +kernel
theorem dL_single_132 : decode cL_single 132 = .ok (.imul, 1) := by decide +kernel
theorem dL_single_133 : decode cL_single 133 = .ok (.iconst 1, 1) := by decide +kernel
theorem dL_single_134 : decode cL_single 134 = .ok (.iadd, 1) := by decide +kernel
theorem dL_single_135 : decode cL_single 135 = .ok (.istore 7, 2) := by decide +kernel
theorem dL_single_137 : decode cL_single 137 = .ok (.aload 4, 2) := by decide +kernel
theorem dL_single_139 : decode cL_single 139 = .ok (.getfield 82, 3) := by decide +kernel
theorem dL_single_142 : decode cL_single 142 = .ok (.iload 9, 2) := by decide +kernel
theorem dL_single_144 : decode cL_single 144 = .ok (.iconst 0, 1) := by decide +kernel
theorem dL_single_145 : decode cL_single 145 = .ok (.bastore, 1) := by decide +kernel
theorem dL_single_146 : decode cL_single 146 = .ok (.iconst 1, 1) := by decide +kernel
theorem dL_single_147 : decode cL_single 147 = .ok (.istore 11, 2) := by decide +kernel
theorem dL_single_149 : decode cL_single 149 = .ok (.iload 11, 2) := by decide +kernel
theorem dL_single_151 : decode cL_single 151 = .ok (.bipush 20, 2) := by decide +kernel
theorem dL_single_153 : decode cL_single 153 = .ok (.if_icmp .gt 54, 3) := by decide +kernel
theorem dL_single_156 : decode cL_single 156 = .ok (.iload 7, 2) := by decide +kernel
theorem dL_single_158 : decode cL_single 158 = .ok (.ifCond .ge 49, 3) := by decide +kernel
theorem dL_single_161 : decode cL_single 161 = .ok (.aload 4, 2) := by decide +kernel
theorem dL_single_163 : decode cL_single 163 = .ok (.getfield 87, 3) := by decide +kernel
theorem dL_single_166 : decode cL_single 166 = .ok (.iload 9, 2) := by decide +kernel
theorem dL_single_168 : decode cL_single 168 = .ok (.iload 11, 2) := by decide +kernel
theorem dL_single_170 : decode cL_single 170 = .ok (.iastore, 1) := by decide +kernel
theorem dL_single_171 : decode cL_single 171 = .ok (.aload_n 2, 1) := by decide +kernel
theorem dL_single_172 : decode cL_single 172 = .ok (.aload 4, 2) := by decide +kernel
theorem dL_single_174 : decode cL_single 174 = .ok (.invokevirtual 124, 3) := by decide +kernel
theorem dL_single_177 : decode cL_single 177 = .ok (.iload_n 3, 1) := by decide +kernel
theorem dL_single_178 : decode cL_single 178 = .ok (.invokevirtual 153, 3) := by decide +kernel
theorem dL_single_181 : decode cL_single 181 = .ok (.ifCond .ne 6, 3) := by decide +kernel
theorem dL_single_184 : decode cL_single 184 = .ok (.goto 17, 3) := by decide +kernel
theorem dL_single_187 : decode cL_single 187 = .ok (.sipush 1000, 3) := by decide +kernel
theorem dL_single_190 : decode cL_single 190 = .ok (.iload 9, 2) := by decide +kernel
theorem dL_single_192 : decode cL_single 192 = .ok (.imul, 1) := by decide +kernel
theorem dL_single_193 : decode cL_single 193 = .ok (.iconst 2, 1) := by decide +kernel
theorem dL_single_194 : decode cL_single 194 = .ok (.iadd, 1) := by decide +kernel
theorem dL_single_195 : decode cL_single 195 = .ok (.istore 7, 2) := by decide +kernel
theorem dL_single_197 : decode cL_single 197 = .ok (.iload 11, 2) := by decide +kernel
theorem dL_single_199 : decode cL_single 199 = .ok (.istore 8, 2) := by decide +kernel
theorem dL_single_201 : decode cL_single 201 = .ok (.iinc 11 1, 3) := by decide +kernel
theorem dL_single_204 : decode cL_single 204 = .ok (.goto (-55), 3) := by decide +kernel
theorem dL_single_207 : decode cL_single 207 = .ok (.aload 4, 2) := by decide +kernel
theorem dL_single_209 : decode cL_single 209 = .ok (.getfield 87, 3) := by decide +kernel
theorem dL_single_212 : decode cL_single 212 = .ok (.iload 9, 2) := by decide +kernel
theorem dL_single_214 : decode cL_single 214 = .ok (.iconst 0, 1) := by decide +kernel
theorem dL_single_215 : decode cL_single 215 = .ok (.iastore, 1) := by decide +kernel
theorem dL_single_216 : decode cL_single 216 = .ok (.iinc 9 1, 3) := by decide +kernel
theorem dL_single_219 : decode cL_single 219 = .ok (.goto (-177), 3) := by decide +kernel
theorem dL_single_222 : decode cL_single 222 = .ok (.aload_n 0, 1) := by decide +kernel
theorem dL_single_223 : decode cL_single 223 = .ok (.iload_n 3, 1) := by decide +kernel
theorem dL_single_224 : decode cL_single 224 = .ok (.invokevirtual 240, 3) := by decide +kernel
theorem dL_single_227 : decode cL_single 227 = .ok (.iload 6, 2) := by decide +kernel
theorem dL_single_229 : decode cL_single 229 = .ok (.if_icmp .ne 75, 3) := by decide +kernel
theorem dL_single_232 : decode cL_single 232 = .ok (.aload_n 0, 1) := by decide +kernel
theorem dL_single_233 : decode cL_single 233 = .ok (.iload_n 3, 1) := by decide +kernel
theorem dL_single_234 : decode cL_single 234 = .ok (.iconst 0, 1) := by decide +kernel
theorem dL_single_235 : decode cL_single 235 = .ok (.invokevirtual 243, 3) := by decide +kernel
theorem dL_single_238 : decode cL_single 238 = .ok (.iload 7, 2) := by decide +kernel
theorem dL_single_240 : decode cL_single 240 = .ok (.ifCond .ge 7, 3) := by decide +kernel
theorem dL_single_243 : decode cL_single 243 = .ok (.iconst (-1), 1) := by decide +kernel
theorem dL_single_244 : decode cL_single 244 = .ok (.goto 9, 3) := by decide +kernel
theorem dL_single_247 : decode cL_single 247 = .ok (.iload 7, 2) := by decide +kernel
theorem dL_single_249 : decode cL_single 249 = .ok (.sipush 1000, 3) := by decide +kernel
theorem dL_single_252 : decode cL_single 252 = .ok (.irem, 1) := by decide +kernel
theorem dL_single_253 : decode cL_single 253 = .ok (.if_icmp .ne 51, 3) := by decide +kernel
theorem dL_single_256 : decode cL_single 256 = .ok (.aload_n 0, 1) := by decide +kernel
theorem dL_single_257 : decode cL_single 257 = .ok (.iload_n 3, 1) := by decide +kernel
theorem dL_single_258 : decode cL_single 258 = .ok (.iconst 1, 1) := by decide +kernel
theorem dL_single_259 : decode cL_single 259 = .ok (.invokevirtual 243, 3) := by decide +kernel
theorem dL_single_262 : decode cL_single 262 = .ok (.iload 7, 2) := by decide +kernel
theorem dL_single_264 : decode cL_single 264 = .ok (.ifCond .ge 7, 3) := by decide +kernel
theorem dL_single_267 : decode cL_single 267 = .ok (.iconst (-1), 1) := by decide +kernel
theorem dL_single_268 : decode cL_single 268 = .ok (.goto 9, 3) := by decide +kernel
theorem dL_single_271 : decode cL_single 271 = .ok (.iload 7, 2) := by decide +kernel
theorem dL_single_273 : decode cL_single 273 = .ok (.sipush 1000, 3) := by decide +kernel
theorem dL_single_276 : decode cL_single 276 = .ok (.idiv, 1) := by decide +kernel
theorem dL_single_277 : decode cL_single 277 = .ok (.if_icmp .ne 27, 3) := by decide +kernel
theorem dL_single_280 : decode cL_single 280 = .ok (.aload_n 0, 1) := by decide +kernel
theorem dL_single_281 : decode cL_single 281 = .ok (.iload_n 3, 1) := by decide +kernel
theorem dL_single_282 : decode cL_single 282 = .ok (.iconst 2, 1) := by decide +kernel
theorem dL_single_283 : decode cL_single 283 = .ok (.invokevirtual 243, 3) := by decide +kernel
theorem dL_single_286 : decode cL_single 286 = .ok (.iload 7, 2) := by decide +kernel
theorem dL_single_288 : decode cL_single 288 = .ok (.ifCond .ge 7, 3) := by decide +kernel
theorem dL_single_291 : decode cL_single 291 = .ok (.iconst (-1), 1) := by decide +kernel
theorem dL_single_292 : decode cL_single 292 = .ok (.goto 5, 3) := by decide +kernel
theorem dL_single_295 : decode cL_single 295 = .ok (.iload 8, 2) := by decide +kernel
theorem dL_single_297 : decode cL_single 297 = .ok (.if_icmp .ne 7, 3) := by decide +kernel
theorem dL_single_300 : decode cL_single 300 = .ok (.iconst 1, 1) := by decide +kernel
theorem dL_single_301 : decode cL_single 301 = .ok (.goto 4, 3) := by decide +kernel
theorem dL_single_304 : decode cL_single 304 = .ok (.iconst 0, 1) := by decide +kernel
theorem dL_single_305 : decode cL_single 305 = .ok (.ireturn, 1) := by decide +kernel
theorem dL_changes_0 : decode cL_changes 0 = .ok (.aload 4, 2) := by decide +kernel
theorem dL_changes_2 : decode cL_changes 2 = .ok (.bipush 6, 2) := by decide +kernel
theorem dL_changes_4 : decode cL_changes 4 = .ok (.invokestatic 35, 3) := by decide +kernel
theorem dL_changes_7 : decode cL_changes 7 = .ok (.tableswitch 499 0 3 #[29, 89, 249, 346], 29) := by decide +kernel
theorem dL_changes_36 : decode cL_changes 36 = .ok (.aload_n 1, 1) := by decide +kernel
theorem dL_changes_37 : decode cL_changes 37 = .ok (.invokevirtual 131, 3) := by decide +kernel
theorem dL_changes_40 : decode cL_changes 40 = .ok (.ifCond .ne 16, 3) := by decide +kernel
theorem dL_changes_43 : decode cL_changes 43 = .ok (.aload_n 0, 1) := by decide +kernel
theorem dL_changes_44 : decode cL_changes 44 = .ok (.invokevirtual 246, 3) := by decide +kernel
theorem dL_changes_47 : decode cL_changes 47 = .ok (.ifCond .ne 7, 3) := by decide +kernel
theorem dL_changes_50 : decode cL_changes 50 = .ok (.iconst 1, 1) := by decide +kernel
theorem dL_changes_51 : decode cL_changes 51 = .ok (.goto 4, 3) := by decide +kernel
theorem dL_changes_54 : decode cL_changes 54 = .ok (.iconst 0, 1) := by decide +kernel
theorem dL_changes_55 : decode cL_changes 55 = .ok (.ireturn, 1) := by decide +kernel
theorem dL_changes_56 : decode cL_changes 56 = .ok (.aload 4, 2) := by decide +kernel
theorem dL_changes_58 : decode cL_changes 58 = .ok (.aload_n 1, 1) := by decide +kernel
theorem dL_changes_59 : decode cL_changes 59 = .ok (.invokevirtual 131, 3) := by decide +kernel
theorem dL_changes_62 : decode cL_changes 62 = .ok (.invokestatic 35, 3) := by decide +kernel
theorem dL_changes_65 : decode cL_changes 65 = .ok (.istore 5, 2) := by decide +kernel
theorem dL_changes_67 : decode cL_changes 67 = .ok (.aload_n 1, 1) := by decide +kernel
theorem dL_changes_68 : decode cL_changes 68 = .ok (.aload_n 1, 1) := by decide +kernel
theorem dL_changes_69 : decode cL_changes 69 = .ok (.iload 5, 2) := by decide +kernel
theorem dL_changes_71 : decode cL_changes 71 = .ok (.invokevirtual 134, 3) := by decide +kernel
theorem dL_changes_74 : decode cL_changes 74 = .ok (.invokevirtual 216, 3) := by decide +kernel
theorem dL_changes_77 : decode cL_changes 77 = .ok (.aload_n 0, 1) := by decide +kernel
theorem dL_changes_78 : decode cL_changes 78 = .ok (.iload 5, 2) := by decide +kernel
theorem dL_changes_80 : decode cL_changes 80 = .ok (.invokevirtual 249, 3) := by decide +kernel
theorem dL_changes_83 : decode cL_changes 83 = .ok (.aload_n 1, 1) := by decide +kernel
theorem dL_changes_84 : decode cL_changes 84 = .ok (.invokevirtual 131, 3) := by decide +kernel
theorem dL_changes_87 : decode cL_changes 87 = .ok (.if_icmp .ne 7, 3) := by decide +kernel
theorem dL_changes_90 : decode cL_changes 90 = .ok (.iconst 1, 1) := by decide +kernel
theorem dL_changes_91 : decode cL_changes 91 = .ok (.goto 4, 3) := by decide +kernel
theorem dL_changes_94 : decode cL_changes 94 = .ok (.iconst 0, 1) := by decide +kernel
theorem dL_changes_95 : decode cL_changes 95 = .ok (.ireturn, 1) := by decide +kernel
theorem dL_changes_96 : decode cL_changes 96 = .ok (.aload 4, 2) := by decide +kernel
theorem dL_changes_98 : decode cL_changes 98 = .ok (.bipush 8, 2) := by decide +kernel
theorem dL_changes_100 : decode cL_changes 100 = .ok (.invokestatic 35, 3) := by decide +kernel
theorem dL_changes_103 : decode cL_changes 103 = .ok (.istore 5, 2) := by decide +kernel
theorem dL_changes_105 : decode cL_changes 105 = .ok (.bipush 8, 2) := by decide +kernel
theorem dL_changes_107 : decode cL_changes 107 = .ok (.newarray .int, 2) := by decide +kernel
theorem dL_changes_109 : decode cL_changes 109 = .ok (.dup, 1) := by decide +kernel
theorem dL_changes_110 : decode cL_changes 110 = .ok (.iconst 0, 1) := by decide +kernel
theorem dL_changes_111 : decode cL_changes 111 = .ok (.iconst 0, 1) := by decide +kernel
theorem dL_changes_112 : decode cL_changes 112 = .ok (.iastore, 1) := by decide +kernel
theorem dL_changes_113 : decode cL_changes 113 = .ok (.dup, 1) := by decide +kernel
theorem dL_changes_114 : decode cL_changes 114 = .ok (.iconst 1, 1) := by decide +kernel
theorem dL_changes_115 : decode cL_changes 115 = .ok (.iconst 1, 1) := by decide +kernel
theorem dL_changes_116 : decode cL_changes 116 = .ok (.iastore, 1) := by decide +kernel
theorem dL_changes_117 : decode cL_changes 117 = .ok (.dup, 1) := by decide +kernel
theorem dL_changes_118 : decode cL_changes 118 = .ok (.iconst 2, 1) := by decide +kernel
theorem dL_changes_119 : decode cL_changes 119 = .ok (.bipush 10, 2) := by decide +kernel
theorem dL_changes_121 : decode cL_changes 121 = .ok (.iastore, 1) := by decide +kernel
theorem dL_changes_122 : decode cL_changes 122 = .ok (.dup, 1) := by decide +kernel
theorem dL_changes_123 : decode cL_changes 123 = .ok (.iconst 3, 1) := by decide +kernel
theorem dL_changes_124 : decode cL_changes 124 = .ok (.iconst 1, 1) := by decide +kernel
theorem dL_changes_125 : decode cL_changes 125 = .ok (.iastore, 1) := by decide +kernel
theorem dL_changes_126 : decode cL_changes 126 = .ok (.dup, 1) := by decide +kernel
theorem dL_changes_127 : decode cL_changes 127 = .ok (.iconst 4, 1) := by decide +kernel
theorem dL_changes_128 : decode cL_changes 128 = .ok (.iconst 1, 1) := by decide +kernel
theorem dL_changes_129 : decode cL_changes 129 = .ok (.iastore, 1) := by decide +kernel
theorem dL_changes_130 : decode cL_changes 130 = .ok (.dup, 1) := by decide +kernel
theorem dL_changes_131 : decode cL_changes 131 = .ok (.iconst 5, 1) := by decide +kernel
theorem dL_changes_132 : decode cL_changes 132 = .ok (.iconst 1, 1) := by decide +kernel
theorem dL_changes_133 : decode cL_changes 133 = .ok (.iastore, 1) := by decide +kernel
theorem dL_changes_134 : decode cL_changes 134 = .ok (.dup, 1) := by decide +kernel
theorem dL_changes_135 : decode cL_changes 135 = .ok (.bipush 6, 2) := by decide +kernel
theorem dL_changes_137 : decode cL_changes 137 = .ok (.iconst 2, 1) := by decide +kernel
theorem dL_changes_138 : decode cL_changes 138 = .ok (.iastore, 1) := by decide +kernel
theorem dL_changes_139 : decode cL_changes 139 = .ok (.dup, 1) := by decide +kernel
theorem dL_changes_140 : decode cL_changes 140 = .ok (.bipush 7, 2) := by decide +kernel
theorem dL_changes_142 : decode cL_changes 142 = .ok (.iconst 1, 1) := by decide +kernel
theorem dL_changes_143 : decode cL_changes 143 = .ok (.iastore, 1) := by decide +kernel
theorem dL_changes_144 : decode cL_changes 144 = .ok (.astore 6, 2) := by decide +kernel
theorem dL_changes_146 : decode cL_changes 146 = .ok (.bipush 8, 2) := by decide +kernel
theorem dL_changes_148 : decode cL_changes 148 = .ok (.newarray .int, 2) := by decide +kernel
theorem dL_changes_150 : decode cL_changes 150 = .ok (.dup, 1) := by decide +kernel
theorem dL_changes_151 : decode cL_changes 151 = .ok (.iconst 0, 1) := by decide +kernel
theorem dL_changes_152 : decode cL_changes 152 = .ok (.iconst 2, 1) := by decide +kernel
theorem dL_changes_153 : decode cL_changes 153 = .ok (.iastore, 1) := by decide +kernel
theorem dL_changes_154 : decode cL_changes 154 = .ok (.dup, 1) := by decide +kernel
theorem dL_changes_155 : decode cL_changes 155 = .ok (.iconst 1, 1) := by decide +kernel
theorem dL_changes_156 : decode cL_changes 156 = .ok (.bipush 8, 2) := by decide +kernel
theorem dL_changes_158 : decode cL_changes 158 = .ok (.iastore, 1) := by decide +kernel
theorem dL_changes_159 : decode cL_changes 159 = .ok (.dup, 1) := by decide +kernel
theorem dL_changes_160 : decode cL_changes 160 = .ok (.iconst 2, 1) := by decide +kernel
theorem dL_changes_161 : decode cL_changes 161 = .ok (.bipush 60, 2) := by decide +kernel
theorem dL_changes_163 : decode cL_changes 163 = .ok (.iastore, 1) := by decide +kernel
theorem dL_changes_164 : decode cL_changes 164 = .ok (.dup, 1) := by decide +kernel
theorem dL_changes_165 : decode cL_changes 165 = .ok (.iconst 3, 1) := by decide +kernel
theorem dL_changes_166 : decode cL_changes 166 = .ok (.iconst 5, 1) := by decide +kernel
theorem dL_changes_167 : decode cL_changes 167 = .ok (.iastore, 1) := by decide +kernel
theorem dL_changes_168 : decode cL_changes 168 = .ok (.dup, 1) := by decide +kernel
theorem dL_changes_169 : decode cL_changes 169 = .ok (.iconst 4, 1) := by decide +kernel
theorem dL_changes_170 : decode cL_changes 170 = .ok (.bipush 20, 2) := by decide +kernel
theorem dL_changes_172 : decode cL_changes 172 = .ok (.iastore, 1) := by decide +kernel
theorem dL_changes_173 : decode cL_changes 173 = .ok (.dup, 1) := by decide +kernel
theorem dL_changes_174 : decode cL_changes 174 = .ok (.iconst 5, 1) := by decide +kernel
theorem dL_changes_175 : decode cL_changes 175 = .ok (.iconst 4, 1) := by decide +kernel
theorem dL_changes_176 : decode cL_changes 176 = .ok (.iastore, 1) := by decide +kernel
theorem dL_changes_177 : decode cL_changes 177 = .ok (.dup, 1) := by decide +kernel
theorem dL_changes_178 : decode cL_changes 178 = .ok (.bipush 6, 2) := by decide +kernel
theorem dL_changes_180 : decode cL_changes 180 = .ok (.bipush 8, 2) := by decide +kernel
theorem dL_changes_182 : decode cL_changes 182 = .ok (.iastore, 1) := by decide +kernel
theorem dL_changes_183 : decode cL_changes 183 = .ok (.dup, 1) := by decide +kernel
theorem dL_changes_184 : decode cL_changes 184 = .ok (.bipush 7, 2) := by decide +kernel
theorem dL_changes_186 : decode cL_changes 186 = .ok (.sipush 200, 3) := by decide +kernel
theorem dL_changes_189 : decode cL_changes 189 = .ok (.iastore, 1) := by decide +kernel
theorem dL_changes_190 : decode cL_changes 190 = .ok (.astore 7, 2) := by decide +kernel
theorem dL_changes_192 : decode cL_changes 192 = .ok (.aload_n 1, 1) := by decide +kernel
theorem dL_changes_193 : decode cL_changes 193 = .ok (.getfield 39, 3) := by decide +kernel
theorem dL_changes_196 : decode cL_changes 196 = .ok (.iload 5, 2) := by decide +kernel
theorem dL_changes_198 : decode cL_changes 198 = .ok (.iaload, 1) := by decide +kernel
theorem dL_changes_199 : decode cL_changes 199 = .ok (.istore 8, 2) := by decide +kernel
theorem dL_changes_201 : decode cL_changes 201 = .ok (.aload_n 1, 1) := by decide +kernel
theorem dL_changes_202 : decode cL_changes 202 = .ok (.getfield 39, 3) := by decide +kernel
theorem dL_changes_205 : decode cL_changes 205 = .ok (.iload 5, 2) := by decide +kernel
theorem dL_changes_207 : decode cL_changes 207 = .ok (.aload 6, 2) := by decide +kernel
theorem dL_changes_209 : decode cL_changes 209 = .ok (.iload 5, 2) := by decide +kernel
theorem dL_changes_211 : decode cL_changes 211 = .ok (.iaload, 1) := by decide +kernel
theorem dL_changes_212 : decode cL_changes 212 = .ok (.aload 4, 2) := by decide +kernel
theorem dL_changes_214 : decode cL_changes 214 = .ok (.aload 7, 2) := by decide +kernel
theorem dL_changes_216 : decode cL_changes 216 = .ok (.iload 5, 2) := by decide +kernel
theorem dL_changes_218 : decode cL_changes 218 = .ok (.iaload, 1) := by decide +kernel
theorem dL_changes_219 : decode cL_changes 219 = .ok (.aload 6, 2) := by decide +kernel
theorem dL_changes_221 : decode cL_changes 221 = .ok (.iload 5, 2) := by decide +kernel
theorem dL_changes_223 : decode cL_changes 223 = .ok (.iaload, 1) := by decide +kernel
theorem dL_changes_224 : decode cL_changes 224 = .ok (.isub, 1) := by decide +kernel
theorem dL_changes_225 : decode cL_changes 225 = .ok (.iconst 1, 1) := by decide +kernel
theorem dL_changes_226 : decode cL_changes 226 = .ok (.iadd, 1) := by decide +kernel
theorem dL_changes_227 : decode cL_changes 227 = .ok (.invokestatic 35, 3) := by decide +kernel
theorem dL_changes_230 : decode cL_changes 230 = .ok (.iadd, 1) := by decide +kernel
theorem dL_changes_231 : decode cL_changes 231 = .ok (.iastore, 1) := by decide +kernel
theorem dL_changes_232 : decode cL_changes 232 = .ok (.aload_n 0, 1) := by decide +kernel
theorem dL_changes_233 : decode cL_changes 233 = .ok (.iload 5, 2) := by decide +kernel
theorem dL_changes_235 : decode cL_changes 235 = .ok (.aload_n 1, 1) := by decide +kernel
theorem dL_changes_236 : decode cL_changes 236 = .ok (.getfield 39, 3) := by decide +kernel
theorem dL_changes_239 : decode cL_changes 239 = .ok (.iload 5, 2) := by decide +kernel
theorem dL_changes_241 : decode cL_changes 241 = .ok (.iaload, 1) := by decide +kernel
theorem dL_changes_242 : decode cL_changes 242 = .ok (.invokevirtual 252, 3) := by decide +kernel
theorem dL_changes_245 : decode cL_changes 245 = .ok (.iload 8, 2) := by decide +kernel
theorem dL_changes_247 : decode cL_changes 247 = .ok (.if_icmp .ne 7, 3) := by decide +kernel
theorem dL_changes_250 : decode cL_changes 250 = .ok (.iconst 1, 1) := by decide +kernel
theorem dL_changes_251 : decode cL_changes 251 = .ok (.goto 4, 3) := by decide +kernel
theorem dL_changes_254 : decode cL_changes 254 = .ok (.iconst 0, 1) := by decide +kernel
theorem dL_changes_255 : decode cL_changes 255 = .ok (.ireturn, 1) := by decide +kernel
theorem dL_changes_256 : decode cL_changes 256 = .ok (.aload_n 2, 1) := by decide +kernel
theorem dL_changes_257 : decode cL_changes 257 = .ok (.aload_n 1, 1) := by decide +kernel
theorem dL_changes_258 : decode cL_changes 258 = .ok (.invokevirtual 124, 3) := by decide +kernel
theorem dL_changes_261 : decode cL_changes 261 = .ok (.astore 5, 2) := by decide +kernel
theorem dL_changes_263 : decode cL_changes 263 = .ok (.iconst 0, 1) := by decide +kernel
theorem dL_changes_264 : decode cL_changes 264 = .ok (.istore 6, 2) := by decide +kernel
theorem dL_changes_266 : decode cL_changes 266 = .ok (.iconst 0, 1) := by decide +kernel
theorem dL_changes_267 : decode cL_changes 267 = .ok (.istore 7, 2) := by decide +kernel
theorem dL_changes_269 : decode cL_changes 269 = .ok (.iload 7, 2) := by decide +kernel
theorem dL_changes_271 : decode cL_changes 271 = .ok (.sipush 144, 3) := by decide +kernel
theorem dL_changes_274 : decode cL_changes 274 = .ok (.if_icmp .ge 64, 3) := by decide +kernel
theorem dL_changes_277 : decode cL_changes 277 = .ok (.iload 6, 2) := by decide +kernel
theorem dL_changes_279 : decode cL_changes 279 = .ok (.aload 5, 2) := by decide +kernel
theorem dL_changes_281 : decode cL_changes 281 = .ok (.getfield 150, 3) := by decide +kernel
theorem dL_changes_284 : decode cL_changes 284 = .ok (.iload 7, 2) := by decide +kernel
theorem dL_changes_286 : decode cL_changes 286 = .ok (.baload, 1) := by decide +kernel
theorem dL_changes_287 : decode cL_changes 287 = .ok (.ifCond .eq 14, 3) := by decide +kernel
theorem dL_changes_290 : decode cL_changes 290 = .ok (.aload_n 3, 1) := by decide +kernel
theorem dL_changes_291 : decode cL_changes 291 = .ok (.iload 7, 2) := by decide +kernel
theorem dL_changes_293 : decode cL_changes 293 = .ok (.baload, 1) := by decide +kernel
theorem dL_changes_294 : decode cL_changes 294 = .ok (.ifCond .ne 7, 3) := by decide +kernel
theorem dL_changes_297 : decode cL_changes 297 = .ok (.iconst 1, 1) := by decide +kernel
theorem dL_changes_298 : decode cL_changes 298 = .ok (.goto 4, 3) := by decide +kernel
theorem dL_changes_301 : decode cL_changes 301 = .ok (.iconst 0, 1) := by decide +kernel
theorem dL_changes_302 : decode cL_changes 302 = .ok (.iadd, 1) := by decide +kernel
theorem dL_changes_303 : decode cL_changes 303 = .ok (.istore 6, 2) := by decide +kernel
theorem dL_changes_305 : decode cL_changes 305 = .ok (.aload_n 3, 1) := by decide +kernel
theorem dL_changes_306 : decode cL_changes 306 = .ok (.iload 7, 2) := by decide +kernel
theorem dL_changes_308 : decode cL_changes 308 = .ok (.aload_n 3, 1) := by decide +kernel
theorem dL_changes_309 : decode cL_changes 309 = .ok (.iload 7, 2) := by decide +kernel
theorem dL_changes_311 : decode cL_changes 311 = .ok (.baload, 1) := by decide +kernel
theorem dL_changes_312 : decode cL_changes 312 = .ok (.ifCond .ne 14, 3) := by decide +kernel
theorem dL_changes_315 : decode cL_changes 315 = .ok (.aload 5, 2) := by decide +kernel
theorem dL_changes_317 : decode cL_changes 317 = .ok (.getfield 150, 3) := by decide +kernel
theorem dL_changes_320 : decode cL_changes 320 = .ok (.iload 7, 2) := by decide +kernel
theorem dL_changes_322 : decode cL_changes 322 = .ok (.baload, 1) := by decide +kernel
theorem dL_changes_323 : decode cL_changes 323 = .ok (.ifCond .eq 7, 3) := by decide +kernel
theorem dL_changes_326 : decode cL_changes 326 = .ok (.iconst 1, 1) := by decide +kernel
theorem dL_changes_327 : decode cL_changes 327 = .ok (.goto 4, 3) := by decide +kernel
theorem dL_changes_330 : decode cL_changes 330 = .ok (.iconst 0, 1) := by decide +kernel
theorem dL_changes_331 : decode cL_changes 331 = .ok (.bastore, 1) := by decide +kernel
theorem dL_changes_332 : decode cL_changes 332 = .ok (.iinc 7 1, 3) := by decide +kernel
theorem dL_changes_335 : decode cL_changes 335 = .ok (.goto (-66), 3) := by decide +kernel
theorem dL_changes_338 : decode cL_changes 338 = .ok (.aload_n 0, 1) := by decide +kernel
theorem dL_changes_339 : decode cL_changes 339 = .ok (.invokevirtual 255, 3) := by decide +kernel
theorem dL_changes_342 : decode cL_changes 342 = .ok (.iload 6, 2) := by decide +kernel
theorem dL_changes_344 : decode cL_changes 344 = .ok (.if_icmp .ne 7, 3) := by decide +kernel
theorem dL_changes_347 : decode cL_changes 347 = .ok (.iconst 1, 1) := by decide +kernel
theorem dL_changes_348 : decode cL_changes 348 = .ok (.goto 4, 3) := by decide +kernel
theorem dL_changes_351 : decode cL_changes 351 = .ok (.iconst 0, 1) := by decide +kernel
theorem dL_changes_352 : decode cL_changes 352 = .ok (.ireturn, 1) := by decide +kernel
theorem dL_changes_353 : decode cL_changes 353 = .ok (.aload 4, 2) := by decide +kernel
theorem dL_changes_355 : decode cL_changes 355 = .ok (.iconst 4, 1) := by decide +kernel
theorem dL_changes_356 : decode cL_changes 356 = .ok (.invokestatic 35, 3) := by decide +kernel
theorem dL_changes_359 : decode cL_changes 359 = .ok (.istore 5, 2) := by decide +kernel
theorem dL_changes_361 : decode cL_changes 361 = .ok (.aload_n 1, 1) := by decide +kernel
theorem dL_changes_362 : decode cL_changes 362 = .ok (.aload_n 2, 1) := by decide +kernel
theorem dL_changes_363 : decode cL_changes 363 = .ok (.iload 5, 2) := by decide +kernel
theorem dL_changes_365 : decode cL_changes 365 = .ok (.invokestatic 206, 3) := by decide +kernel
theorem dL_changes_368 : decode cL_changes 368 = .ok (.istore 6, 2) := by decide +kernel
theorem dL_changes_370 : decode cL_changes 370 = .ok (.iload 6, 2) := by decide +kernel
theorem dL_changes_372 : decode cL_changes 372 = .ok (.ifCond .ge 5, 3) := by decide +kernel
theorem dL_changes_375 : decode cL_changes 375 = .ok (.iconst 1, 1) := by decide +kernel
theorem dL_changes_376 : decode cL_changes 376 = .ok (.ireturn, 1) := by decide +kernel
theorem dL_changes_377 : decode cL_changes 377 = .ok (.aload_n 1, 1) := by decide +kernel
theorem dL_changes_378 : decode cL_changes 378 = .ok (.iload 6, 2) := by decide +kernel
theorem dL_changes_380 : decode cL_changes 380 = .ok (.invokevirtual 202, 3) := by decide +kernel
theorem dL_changes_383 : decode cL_changes 383 = .ok (.astore 7, 2) := by decide +kernel
theorem dL_changes_385 : decode cL_changes 385 = .ok (.iconst 0, 1) := by decide +kernel
theorem dL_changes_386 : decode cL_changes 386 = .ok (.istore 8, 2) := by decide +kernel
theorem dL_changes_388 : decode cL_changes 388 = .ok (.iload 8, 2) := by decide +kernel
theorem dL_changes_390 : decode cL_changes 390 = .ok (.bipush 120, 2) := by decide +kernel
theorem dL_changes_392 : decode cL_changes 392 = .ok (.if_icmp .ge 39, 3) := by decide +kernel
theorem dL_changes_395 : decode cL_changes 395 = .ok (.aload_n 1, 1) := by decide +kernel
theorem dL_changes_396 : decode cL_changes 396 = .ok (.iload 8, 2) := by decide +kernel
theorem dL_changes_398 : decode cL_changes 398 = .ok (.aload 7, 2) := by decide +kernel
theorem dL_changes_400 : decode cL_changes 400 = .ok (.getfield 76, 3) := by decide +kernel
theorem dL_changes_403 : decode cL_changes 403 = .ok (.iload 8, 2) := by decide +kernel
theorem dL_changes_405 : decode cL_changes 405 = .ok (.baload, 1) := by decide +kernel
theorem dL_changes_406 : decode cL_changes 406 = .ok (.aload 7, 2) := by decide +kernel
theorem dL_changes_408 : decode cL_changes 408 = .ok (.getfield 82, 3) := by decide +kernel
theorem dL_changes_411 : decode cL_changes 411 = .ok (.iload 8, 2) := by decide +kernel
theorem dL_changes_413 : decode cL_changes 413 = .ok (.baload, 1) := by decide +kernel
theorem dL_changes_414 : decode cL_changes 414 = .ok (.aload 7, 2) := by decide +kernel
theorem dL_changes_416 : decode cL_changes 416 = .ok (.getfield 87, 3) := by decide +kernel
theorem dL_changes_419 : decode cL_changes 419 = .ok (.iload 8, 2) := by decide +kernel
theorem dL_changes_421 : decode cL_changes 421 = .ok (.iaload, 1) := by decide +kernel
theorem dL_changes_422 : decode cL_changes 422 = .ok (.invokevirtual 258, 3) := by decide +kernel
theorem dL_changes_425 : decode cL_changes 425 = .ok (.iinc 8 1, 3) := by decide +kernel
theorem dL_changes_428 : decode cL_changes 428 = .ok (.goto (-40), 3) := by decide +kernel
theorem dL_changes_431 : decode cL_changes 431 = .ok (.iconst 0, 1) := by decide +kernel
theorem dL_changes_432 : decode cL_changes 432 = .ok (.istore 8, 2) := by decide +kernel
theorem dL_changes_434 : decode cL_changes 434 = .ok (.iload 8, 2) := by decide +kernel
theorem dL_changes_436 : decode cL_changes 436 = .ok (.aload_n 1, 1) := by decide +kernel
theorem dL_changes_437 : decode cL_changes 437 = .ok (.invokevirtual 131, 3) := by decide +kernel
theorem dL_changes_440 : decode cL_changes 440 = .ok (.if_icmp .ge 47, 3) := by decide +kernel
theorem dL_changes_443 : decode cL_changes 443 = .ok (.aload_n 1, 1) := by decide +kernel
theorem dL_changes_444 : decode cL_changes 444 = .ok (.iload 8, 2) := by decide +kernel
theorem dL_changes_446 : decode cL_changes 446 = .ok (.invokevirtual 134, 3) := by decide +kernel
theorem dL_changes_449 : decode cL_changes 449 = .ok (.istore 9, 2) := by decide +kernel
theorem dL_changes_451 : decode cL_changes 451 = .ok (.iload 9, 2) := by decide +kernel
theorem dL_changes_453 : decode cL_changes 453 = .ok (.sipush 1000, 3) := by decide +kernel
theorem dL_changes_456 : decode cL_changes 456 = .ok (.irem, 1) := by decide +kernel
theorem dL_changes_457 : decode cL_changes 457 = .ok (.iconst 2, 1) := by decide +kernel
theorem dL_changes_458 : decode cL_changes 458 = .ok (.if_icmp .ne 23, 3) := by decide +kernel
theorem dL_changes_461 : decode cL_changes 461 = .ok (.aload_n 1, 1) := by decide +kernel
theorem dL_changes_462 : decode cL_changes 462 = .ok (.getfield 87, 3) := by decide +kernel
theorem dL_changes_465 : decode cL_changes 465 = .ok (.iload 9, 2) := by decide +kernel
theorem dL_changes_467 : decode cL_changes 467 = .ok (.sipush 1000, 3) := by decide +kernel
theorem dL_changes_470 : decode cL_changes 470 = .ok (.idiv, 1) := by decide +kernel
theorem dL_changes_471 : decode cL_changes 471 = .ok (.aload_n 1, 1) := by decide +kernel
theorem dL_changes_472 : decode cL_changes 472 = .ok (.aload_n 2, 1) := by decide +kernel
theorem dL_changes_473 : decode cL_changes 473 = .ok (.iload 8, 2) := by decide +kernel
theorem dL_changes_475 : decode cL_changes 475 = .ok (.iload 5, 2) := by decide +kernel
theorem dL_changes_477 : decode cL_changes 477 = .ok (.invokestatic 226, 3) := by decide +kernel
theorem dL_changes_480 : decode cL_changes 480 = .ok (.iastore, 1) := by decide +kernel
theorem dL_changes_481 : decode cL_changes 481 = .ok (.iinc 8 1, 3) := by decide +kernel
theorem dL_changes_484 : decode cL_changes 484 = .ok (.goto (-50), 3) := by decide +kernel
theorem dL_changes_487 : decode cL_changes 487 = .ok (.aload_n 0, 1) := by decide +kernel
theorem dL_changes_488 : decode cL_changes 488 = .ok (.iload 5, 2) := by decide +kernel
theorem dL_changes_490 : decode cL_changes 490 = .ok (.invokevirtual 262, 3) := by decide +kernel
theorem dL_changes_493 : decode cL_changes 493 = .ok (.aload_n 1, 1) := by decide +kernel
theorem dL_changes_494 : decode cL_changes 494 = .ok (.invokevirtual 131, 3) := by decide +kernel
theorem dL_changes_497 : decode cL_changes 497 = .ok (.if_icmp .ne 7, 3) := by decide +kernel
theorem dL_changes_500 : decode cL_changes 500 = .ok (.iconst 1, 1) := by decide +kernel
theorem dL_changes_501 : decode cL_changes 501 = .ok (.goto 4, 3) := by decide +kernel
theorem dL_changes_504 : decode cL_changes 504 = .ok (.iconst 0, 1) := by decide +kernel
theorem dL_changes_505 : decode cL_changes 505 = .ok (.ireturn, 1) := by decide +kernel
theorem dL_changes_506 : decode cL_changes 506 = .ok (.aload 4, 2) := by decide +kernel
theorem dL_changes_508 : decode cL_changes 508 = .ok (.bipush 20, 2) := by decide +kernel
theorem dL_changes_510 : decode cL_changes 510 = .ok (.invokestatic 35, 3) := by decide +kernel
theorem dL_changes_513 : decode cL_changes 513 = .ok (.istore 5, 2) := by decide +kernel
theorem dL_changes_515 : decode cL_changes 515 = .ok (.aload 4, 2) := by decide +kernel
theorem dL_changes_517 : decode cL_changes 517 = .ok (.iconst 3, 1) := by decide +kernel
theorem dL_changes_518 : decode cL_changes 518 = .ok (.invokestatic 35, 3) := by decide +kernel
theorem dL_changes_521 : decode cL_changes 521 = .ok (.istore 6, 2) := by decide +kernel
theorem dL_changes_523 : decode cL_changes 523 = .ok (.aload_n 1, 1) := by decide +kernel
theorem dL_changes_524 : decode cL_changes 524 = .ok (.invokevirtual 131, 3) := by decide +kernel
theorem dL_changes_527 : decode cL_changes 527 = .ok (.iconst 5, 1) := by decide +kernel
theorem dL_changes_528 : decode cL_changes 528 = .ok (.if_icmp .gt 50, 3) := by decide +kernel
theorem dL_changes_531 : decode cL_changes 531 = .ok (.iload 6, 2) := by decide +kernel
theorem dL_changes_533 : decode cL_changes 533 = .ok (.ifCond .ne 16, 3) := by decide +kernel
theorem dL_changes_536 : decode cL_changes 536 = .ok (.aload_n 1, 1) := by decide +kernel
theorem dL_changes_537 : decode cL_changes 537 = .ok (.getfield 76, 3) := by decide +kernel
theorem dL_changes_540 : decode cL_changes 540 = .ok (.iload 5, 2) := by decide +kernel
theorem dL_changes_542 : decode cL_changes 542 = .ok (.baload, 1) := by decide +kernel
theorem dL_changes_543 : decode cL_changes 543 = .ok (.ifCond .eq 37, 3) := by decide +kernel
theorem dL_changes_546 : decode cL_changes 546 = .ok (.goto 32, 3) := by decide +kernel
theorem dL_changes_549 : decode cL_changes 549 = .ok (.iload 6, 2) := by decide +kernel
theorem dL_changes_551 : decode cL_changes 551 = .ok (.iconst 1, 1) := by decide +kernel
theorem dL_changes_552 : decode cL_changes 552 = .ok (.if_icmp .ne 16, 3) := by decide +kernel
theorem dL_changes_555 : decode cL_changes 555 = .ok (.aload_n 1, 1) := by decide +kernel
theorem dL_changes_556 : decode cL_changes 556 = .ok (.getfield 82, 3) := by decide +kernel
theorem dL_changes_559 : decode cL_changes 559 = .ok (.iload 5, 2) := by decide +kernel
theorem dL_changes_561 : decode cL_changes 561 = .ok (.baload, 1) := by decide +kernel
theorem dL_changes_562 : decode cL_changes 562 = .ok (.ifCond .eq 18, 3) := by decide +kernel
theorem dL_changes_565 : decode cL_changes 565 = .ok (.goto 13, 3) := by decide +kernel
theorem dL_changes_568 : decode cL_changes 568 = .ok (.aload_n 1, 1) := by decide +kernel
theorem dL_changes_569 : decode cL_changes 569 = .ok (.getfield 87, 3) := by decide +kernel
theorem dL_changes_572 : decode cL_changes 572 = .ok (.iload 5, 2) := by decide +kernel
theorem dL_changes_574 : decode cL_changes 574 = .ok (.iaload, 1) := by decide +kernel
theorem dL_changes_575 : decode cL_changes 575 = .ok (.ifCond .le 5, 3) := by decide +kernel
theorem dL_changes_578 : decode cL_changes 578 = .ok (.iconst 1, 1) := by decide +kernel
theorem dL_changes_579 : decode cL_changes 579 = .ok (.ireturn, 1) := by decide +kernel
theorem dL_changes_580 : decode cL_changes 580 = .ok (.iload 6, 2) := by decide +kernel
theorem dL_changes_582 : decode cL_changes 582 = .ok (.iconst 2, 1) := by decide +kernel
theorem dL_changes_583 : decode cL_changes 583 = .ok (.if_icmp .ne 15, 3) := by decide +kernel
theorem dL_changes_586 : decode cL_changes 586 = .ok (.iconst 1, 1) := by decide +kernel
theorem dL_changes_587 : decode cL_changes 587 = .ok (.aload 4, 2) := by decide +kernel
theorem dL_changes_589 : decode cL_changes 589 = .ok (.bipush 20, 2) := by decide +kernel
theorem dL_changes_591 : decode cL_changes 591 = .ok (.invokestatic 35, 3) := by decide +kernel
theorem dL_changes_594 : decode cL_changes 594 = .ok (.iadd, 1) := by decide +kernel
theorem dL_changes_595 : decode cL_changes 595 = .ok (.goto 4, 3) := by decide +kernel
theorem dL_changes_598 : decode cL_changes 598 = .ok (.iconst 0, 1) := by decide +kernel
theorem dL_changes_599 : decode cL_changes 599 = .ok (.istore 7, 2) := by decide +kernel
theorem dL_changes_601 : decode cL_changes 601 = .ok (.iload 6, 2) := by decide +kernel
theorem dL_changes_603 : decode cL_changes 603 = .ok (.iconst 2, 1) := by decide +kernel
theorem dL_changes_604 : decode cL_changes 604 = .ok (.if_icmp .ne 15, 3) := by decide +kernel
theorem dL_changes_607 : decode cL_changes 607 = .ok (.aload_n 1, 1) := by decide +kernel
theorem dL_changes_608 : decode cL_changes 608 = .ok (.getfield 87, 3) := by decide +kernel
theorem dL_changes_611 : decode cL_changes 611 = .ok (.iload 5, 2) := by decide +kernel
theorem dL_changes_613 : decode cL_changes 613 = .ok (.iload 7, 2) := by decide +kernel
theorem dL_changes_615 : decode cL_changes 615 = .ok (.iastore, 1) := by decide +kernel
theorem dL_changes_616 : decode cL_changes 616 = .ok (.goto 57, 3) := by decide +kernel
theorem dL_changes_619 : decode cL_changes 619 = .ok (.aload_n 1, 1) := by decide +kernel
theorem dL_changes_620 : decode cL_changes 620 = .ok (.iload 5, 2) := by decide +kernel
theorem dL_changes_622 : decode cL_changes 622 = .ok (.aload_n 1, 1) := by decide +kernel
theorem dL_changes_623 : decode cL_changes 623 = .ok (.getfield 76, 3) := by decide +kernel
theorem dL_changes_626 : decode cL_changes 626 = .ok (.iload 5, 2) := by decide +kernel
theorem dL_changes_628 : decode cL_changes 628 = .ok (.baload, 1) := by decide +kernel
theorem dL_changes_629 : decode cL_changes 629 = .ok (.ifCond .ne 8, 3) := by decide +kernel
theorem dL_changes_632 : decode cL_changes 632 = .ok (.iload 6, 2) := by decide +kernel
theorem dL_changes_634 : decode cL_changes 634 = .ok (.ifCond .ne 7, 3) := by decide +kernel
theorem dL_changes_637 : decode cL_changes 637 = .ok (.iconst 1, 1) := by decide +kernel
theorem dL_changes_638 : decode cL_changes 638 = .ok (.goto 4, 3) := by decide +kernel
theorem dL_changes_641 : decode cL_changes 641 = .ok (.iconst 0, 1) := by decide +kernel
theorem dL_changes_642 : decode cL_changes 642 = .ok (.aload_n 1, 1) := by decide +kernel
theorem dL_changes_643 : decode cL_changes 643 = .ok (.getfield 82, 3) := by decide +kernel
theorem dL_changes_646 : decode cL_changes 646 = .ok (.iload 5, 2) := by decide +kernel
theorem dL_changes_648 : decode cL_changes 648 = .ok (.baload, 1) := by decide +kernel
theorem dL_changes_649 : decode cL_changes 649 = .ok (.ifCond .ne 9, 3) := by decide +kernel
theorem dL_changes_652 : decode cL_changes 652 = .ok (.iload 6, 2) := by decide +kernel
theorem dL_changes_654 : decode cL_changes 654 = .ok (.iconst 1, 1) := by decide +kernel
theorem dL_changes_655 : decode cL_changes 655 = .ok (.if_icmp .ne 7, 3) := by decide +kernel
theorem dL_changes_658 : decode cL_changes 658 = .ok (.iconst 1, 1) := by decide +kernel
theorem dL_changes_659 : decode cL_changes 659 = .ok (.goto 4, 3) := by decide +kernel
theorem dL_changes_662 : decode cL_changes 662 = .ok (.iconst 0, 1) := by decide +kernel
theorem dL_changes_663 : decode cL_changes 663 = .ok (.aload_n 1, 1) := by decide +kernel
theorem dL_changes_664 : decode cL_changes 664 = .ok (.getfield 87, 3) := by decide +kernel
theorem dL_changes_667 : decode cL_changes 667 = .ok (.iload 5, 2) := by decide +kernel
theorem dL_changes_669 : decode cL_changes 669 = .ok (.iaload, 1) := by decide +kernel
theorem dL_changes_670 : decode cL_changes 670 = .ok (.invokevirtual 258, 3) := by decide +kernel
theorem dL_changes_673 : decode cL_changes 673 = .ok (.iconst 0, 1) := by decide +kernel
theorem dL_changes_674 : decode cL_changes 674 = .ok (.istore 8, 2) := by decide +kernel
theorem dL_changes_676 : decode cL_changes 676 = .ok (.aload_n 1, 1) := by decide +kernel
theorem dL_changes_677 : decode cL_changes 677 = .ok (.iload 8, 2) := by decide +kernel
theorem dL_changes_679 : decode cL_changes 679 = .ok (.invokevirtual 134, 3) := by decide +kernel
theorem dL_changes_682 : decode cL_changes 682 = .ok (.sipush 1000, 3) := by decide +kernel
theorem dL_changes_685 : decode cL_changes 685 = .ok (.iload 5, 2) := by decide +kernel
theorem dL_changes_687 : decode cL_changes 687 = .ok (.imul, 1) := by decide +kernel
theorem dL_changes_688 : decode cL_changes 688 = .ok (.iload 6, 2) := by decide +kernel
theorem dL_changes_690 : decode cL_changes 690 = .ok (.iadd, 1) := by decide +kernel
theorem dL_changes_691 : decode cL_changes 691 = .ok (.if_icmp .eq 9, 3) := by decide +kernel
theorem dL_changes_694 : decode cL_changes 694 = .ok (.iinc 8 1, 3) := by decide +kernel
theorem dL_changes_697 : decode cL_changes 697 = .ok (.goto (-21), 3) := by decide +kernel
theorem dL_changes_700 : decode cL_changes 700 = .ok (.aload_n 0, 1) := by decide +kernel
theorem dL_changes_701 : decode cL_changes 701 = .ok (.iload 6, 2) := by decide +kernel
theorem dL_changes_703 : decode cL_changes 703 = .ok (.iload 5, 2) := by decide +kernel
theorem dL_changes_705 : decode cL_changes 705 = .ok (.iload 7, 2) := by decide +kernel
theorem dL_changes_707 : decode cL_changes 707 = .ok (.invokevirtual 265, 3) := by decide +kernel
theorem dL_changes_710 : decode cL_changes 710 = .ok (.iload 8, 2) := by decide +kernel
theorem dL_changes_712 : decode cL_changes 712 = .ok (.if_icmp .ne 7, 3) := by decide +kernel
theorem dL_changes_715 : decode cL_changes 715 = .ok (.iconst 1, 1) := by decide +kernel
theorem dL_changes_716 : decode cL_changes 716 = .ok (.goto 4, 3) := by decide +kernel
theorem dL_changes_719 : decode cL_changes 719 = .ok (.iconst 0, 1) := by decide +kernel
theorem dL_changes_720 : decode cL_changes 720 = .ok (.ireturn, 1) := by decide +kernel
