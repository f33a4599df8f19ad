theorem dX0_init_0 : decode cX0_init 0 = .ok (.aload_n 0, 1) := by decide +kernel
theorem dX0_init_1 : decode cX0_init 1 = .ok (.invokespecial 3, 3) := by decide +kernel
theorem dX0_init_4 : decode cX0_init 4 = .ok (.aload_n 0, 1) := by decide +kernel
theorem dX0_init_5 : decode cX0_init 5 = .ok (.bipush 8, 2) := by decide +kernel
theorem dX0_init_7 : decode cX0_init 7 = .ok (.newarray .int, 2) := by decide +kernel
theorem dX0_init_9 : decode cX0_init 9 = .ok (.putfield 9, 3) := by decide +kernel
theorem dX0_init_12 : decode cX0_init 12 = .ok (.aload_n 0, 1) := by decide +kernel
theorem dX0_init_13 : decode cX0_init 13 = .ok (.bipush 10, 2) := by decide +kernel
theorem dX0_init_15 : decode cX0_init 15 = .ok (.newarray .int, 2) := by decide +kernel
theorem dX0_init_17 : decode cX0_init 17 = .ok (.putfield 15, 3) := by decide +kernel
theorem dX0_init_20 : decode cX0_init 20 = .ok (.aload_n 0, 1) := by decide +kernel
theorem dX0_init_21 : decode cX0_init 21 = .ok (.bipush 10, 2) := by decide +kernel
theorem dX0_init_23 : decode cX0_init 23 = .ok (.newarray .int, 2) := by decide +kernel
theorem dX0_init_25 : decode cX0_init 25 = .ok (.putfield 18, 3) := by decide +kernel
theorem dX0_init_28 : decode cX0_init 28 = .ok (.aload_n 0, 1) := by decide +kernel
theorem dX0_init_29 : decode cX0_init 29 = .ok (.bipush 10, 2) := by decide +kernel
theorem dX0_init_31 : decode cX0_init 31 = .ok (.newarray .int, 2) := by decide +kernel
theorem dX0_init_33 : decode cX0_init 33 = .ok (.putfield 21, 3) := by decide +kernel
theorem dX0_init_36 : decode cX0_init 36 = .ok (.aload_n 0, 1) := by decide +kernel
theorem dX0_init_37 : decode cX0_init 37 = .ok (.iconst 0, 1) := by decide +kernel
theorem dX0_init_38 : decode cX0_init 38 = .ok (.putfield 24, 3) := by decide +kernel
theorem dX0_init_41 : decode cX0_init 41 = .ok (.aload_n 0, 1) := by decide +kernel
theorem dX0_init_42 : decode cX0_init 42 = .ok (.new 28, 3) := by decide +kernel
theorem dX0_init_45 : decode cX0_init 45 = .ok (.dup, 1) := by decide +kernel
theorem dX0_init_46 : decode cX0_init 46 = .ok (.invokespecial 30, 3) := by decide +kernel
theorem dX0_init_49 : decode cX0_init 49 = .ok (.putfield 31, 3) := by decide +kernel
theorem dX0_init_52 : decode cX0_init 52 = .ok (.return_, 1) := by decide +kernel
theorem dX0_begin_0 : decode cX0_begin 0 = .ok (.iconst 0, 1) := by decide +kernel
theorem dX0_begin_1 : decode cX0_begin 1 = .ok (.istore_n 1, 1) := by decide +kernel
theorem dX0_begin_2 : decode cX0_begin 2 = .ok (.iload_n 1, 1) := by decide +kernel
theorem dX0_begin_3 : decode cX0_begin 3 = .ok (.bipush 8, 2) := by decide +kernel
theorem dX0_begin_5 : decode cX0_begin 5 = .ok (.if_icmp .ge 20, 3) := by decide +kernel
theorem dX0_begin_8 : decode cX0_begin 8 = .ok (.aload_n 0, 1) := by decide +kernel
theorem dX0_begin_9 : decode cX0_begin 9 = .ok (.getfield 9, 3) := by decide +kernel
theorem dX0_begin_12 : decode cX0_begin 12 = .ok (.iload_n 1, 1) := by decide +kernel
theorem dX0_begin_13 : decode cX0_begin 13 = .ok (.getstatic 35, 3) := by decide +kernel
theorem dX0_begin_16 : decode cX0_begin 16 = .ok (.iload_n 1, 1) := by decide +kernel
theorem dX0_begin_17 : decode cX0_begin 17 = .ok (.iaload, 1) := by decide +kernel
theorem dX0_begin_18 : decode cX0_begin 18 = .ok (.iastore, 1) := by decide +kernel
theorem dX0_begin_19 : decode cX0_begin 19 = .ok (.iinc 1 1, 3) := by decide +kernel
theorem dX0_begin_22 : decode cX0_begin 22 = .ok (.goto (-20), 3) := by decide +kernel
theorem dX0_begin_25 : decode cX0_begin 25 = .ok (.aload_n 0, 1) := by decide +kernel
theorem dX0_begin_26 : decode cX0_begin 26 = .ok (.iconst 0, 1) := by decide +kernel
theorem dX0_begin_27 : decode cX0_begin 27 = .ok (.putfield 24, 3) := by decide +kernel
theorem dX0_begin_30 : decode cX0_begin 30 = .ok (.aload_n 0, 1) := by decide +kernel
theorem dX0_begin_31 : decode cX0_begin 31 = .ok (.getfield 31, 3) := by decide +kernel
theorem dX0_begin_34 : decode cX0_begin 34 = .ok (.invokevirtual 38, 3) := by decide +kernel
theorem dX0_begin_37 : decode cX0_begin 37 = .ok (.return_, 1) := by decide +kernel
theorem dX0_takeAll_0 : decode cX0_takeAll 0 = .ok (.aload_n 0, 1) := by decide +kernel
theorem dX0_takeAll_1 : decode cX0_takeAll 1 = .ok (.aload_n 1, 1) := by decide +kernel
theorem dX0_takeAll_2 : decode cX0_takeAll 2 = .ok (.iconst (-1), 1) := by decide +kernel
theorem dX0_takeAll_3 : decode cX0_takeAll 3 = .ok (.invokevirtual 41, 3) := by decide +kernel
theorem dX0_takeAll_6 : decode cX0_takeAll 6 = .ok (.aload_n 0, 1) := by decide +kernel
theorem dX0_takeAll_7 : decode cX0_takeAll 7 = .ok (.getfield 31, 3) := by decide +kernel
theorem dX0_takeAll_10 : decode cX0_takeAll 10 = .ok (.aload_n 1, 1) := by decide +kernel
theorem dX0_takeAll_11 : decode cX0_takeAll 11 = .ok (.getfield 31, 3) := by decide +kernel
theorem dX0_takeAll_14 : decode cX0_takeAll 14 = .ok (.invokevirtual 45, 3) := by decide +kernel
theorem dX0_takeAll_17 : decode cX0_takeAll 17 = .ok (.return_, 1) := by decide +kernel
theorem dX0_takePart_0 : decode cX0_takePart 0 = .ok (.iconst 0, 1) := by decide +kernel
theorem dX0_takePart_1 : decode cX0_takePart 1 = .ok (.istore_n 3, 1) := by decide +kernel
theorem dX0_takePart_2 : decode cX0_takePart 2 = .ok (.iload_n 3, 1) := by decide +kernel
theorem dX0_takePart_3 : decode cX0_takePart 3 = .ok (.bipush 8, 2) := by decide +kernel
theorem dX0_takePart_5 : decode cX0_takePart 5 = .ok (.if_icmp .ge 21, 3) := by decide +kernel
theorem dX0_takePart_8 : decode cX0_takePart 8 = .ok (.aload_n 0, 1) := by decide +kernel
theorem dX0_takePart_9 : decode cX0_takePart 9 = .ok (.getfield 9, 3) := by decide +kernel
theorem dX0_takePart_12 : decode cX0_takePart 12 = .ok (.iload_n 3, 1) := by decide +kernel
theorem dX0_takePart_13 : decode cX0_takePart 13 = .ok (.aload_n 1, 1) := by decide +kernel
theorem dX0_takePart_14 : decode cX0_takePart 14 = .ok (.getfield 9, 3) := by decide +kernel
theorem dX0_takePart_17 : decode cX0_takePart 17 = .ok (.iload_n 3, 1) := by decide +kernel
theorem dX0_takePart_18 : decode cX0_takePart 18 = .ok (.iaload, 1) := by decide +kernel
theorem dX0_takePart_19 : decode cX0_takePart 19 = .ok (.iastore, 1) := by decide +kernel
theorem dX0_takePart_20 : decode cX0_takePart 20 = .ok (.iinc 3 1, 3) := by decide +kernel
theorem dX0_takePart_23 : decode cX0_takePart 23 = .ok (.goto (-21), 3) := by decide +kernel
theorem dX0_takePart_26 : decode cX0_takePart 26 = .ok (.iconst 0, 1) := by decide +kernel
theorem dX0_takePart_27 : decode cX0_takePart 27 = .ok (.istore_n 3, 1) := by decide +kernel
theorem dX0_takePart_28 : decode cX0_takePart 28 = .ok (.iconst 0, 1) := by decide +kernel
theorem dX0_takePart_29 : decode cX0_takePart 29 = .ok (.istore 4, 2) := by decide +kernel
theorem dX0_takePart_31 : decode cX0_takePart 31 = .ok (.iload 4, 2) := by decide +kernel
theorem dX0_takePart_33 : decode cX0_takePart 33 = .ok (.bipush 10, 2) := by decide +kernel
theorem dX0_takePart_35 : decode cX0_takePart 35 = .ok (.if_icmp .ge 75, 3) := by decide +kernel
theorem dX0_takePart_38 : decode cX0_takePart 38 = .ok (.iload 4, 2) := by decide +kernel
theorem dX0_takePart_40 : decode cX0_takePart 40 = .ok (.aload_n 1, 1) := by decide +kernel
theorem dX0_takePart_41 : decode cX0_takePart 41 = .ok (.getfield 24, 3) := by decide +kernel
theorem dX0_takePart_44 : decode cX0_takePart 44 = .ok (.if_icmp .ge 66, 3) := by decide +kernel
theorem dX0_takePart_47 : decode cX0_takePart 47 = .ok (.iload_n 2, 1) := by decide +kernel
theorem dX0_takePart_48 : decode cX0_takePart 48 = .ok (.iload 4, 2) := by decide +kernel
theorem dX0_takePart_50 : decode cX0_takePart 50 = .ok (.ishr, 1) := by decide +kernel
theorem dX0_takePart_51 : decode cX0_takePart 51 = .ok (.iconst 1, 1) := by decide +kernel
theorem dX0_takePart_52 : decode cX0_takePart 52 = .ok (.iand, 1) := by decide +kernel
theorem dX0_takePart_53 : decode cX0_takePart 53 = .ok (.ifCond .eq 51, 3) := by decide +kernel
theorem dX0_takePart_56 : decode cX0_takePart 56 = .ok (.iload_n 3, 1) := by decide +kernel
theorem dX0_takePart_57 : decode cX0_takePart 57 = .ok (.bipush 10, 2) := by decide +kernel
theorem dX0_takePart_59 : decode cX0_takePart 59 = .ok (.if_icmp .ge 45, 3) := by decide +kernel
theorem dX0_takePart_62 : decode cX0_takePart 62 = .ok (.aload_n 0, 1) := by decide +kernel
theorem dX0_takePart_63 : decode cX0_takePart 63 = .ok (.getfield 15, 3) := by decide +kernel
theorem dX0_takePart_66 : decode cX0_takePart 66 = .ok (.iload_n 3, 1) := by decide +kernel
theorem dX0_takePart_67 : decode cX0_takePart 67 = .ok (.aload_n 1, 1) := by decide +kernel
theorem dX0_takePart_68 : decode cX0_takePart 68 = .ok (.getfield 15, 3) := by decide +kernel
theorem dX0_takePart_71 : decode cX0_takePart 71 = .ok (.iload 4, 2) := by decide +kernel
theorem dX0_takePart_73 : decode cX0_takePart 73 = .ok (.iaload, 1) := by decide +kernel
theorem dX0_takePart_74 : decode cX0_takePart 74 = .ok (.iastore, 1) := by decide +kernel
theorem dX0_takePart_75 : decode cX0_takePart 75 = .ok (.aload_n 0, 1) := by decide +kernel
theorem dX0_takePart_76 : decode cX0_takePart 76 = .ok (.getfield 18, 3) := by decide +kernel
theorem dX0_takePart_79 : decode cX0_takePart 79 = .ok (.iload_n 3, 1) := by decide +kernel
theorem dX0_takePart_80 : decode cX0_takePart 80 = .ok (.aload_n 1, 1) := by decide +kernel
theorem dX0_takePart_81 : decode cX0_takePart 81 = .ok (.getfield 18, 3) := by decide +kernel
theorem dX0_takePart_84 : decode cX0_takePart 84 = .ok (.iload 4, 2) := by decide +kernel
theorem dX0_takePart_86 : decode cX0_takePart 86 = .ok (.iaload, 1) := by decide +kernel
theorem dX0_takePart_87 : decode cX0_takePart 87 = .ok (.iastore, 1) := by decide +kernel
theorem dX0_takePart_88 : decode cX0_takePart 88 = .ok (.aload_n 0, 1) := by decide +kernel
theorem dX0_takePart_89 : decode cX0_takePart 89 = .ok (.getfield 21, 3) := by decide +kernel
theorem dX0_takePart_92 : decode cX0_takePart 92 = .ok (.iload_n 3, 1) := by decide +kernel
theorem dX0_takePart_93 : decode cX0_takePart 93 = .ok (.aload_n 1, 1) := by decide +kernel
theorem dX0_takePart_94 : decode cX0_takePart 94 = .ok (.getfield 21, 3) := by decide +kernel
theorem dX0_takePart_97 : decode cX0_takePart 97 = .ok (.iload 4, 2) := by decide +kernel
theorem dX0_takePart_99 : decode cX0_takePart 99 = .ok (.iaload, 1) := by decide +kernel
theorem dX0_takePart_100 : decode cX0_takePart 100 = .ok (.iastore, 1) := by decide +kernel
theorem dX0_takePart_101 : decode cX0_takePart 101 = .ok (.iinc 3 1, 3) := by decide +kernel
theorem dX0_takePart_104 : decode cX0_takePart 104 = .ok (.iinc 4 1, 3) := by decide +kernel
theorem dX0_takePart_107 : decode cX0_takePart 107 = .ok (.goto (-76), 3) := by decide +kernel
theorem dX0_takePart_110 : decode cX0_takePart 110 = .ok (.aload_n 0, 1) := by decide +kernel
theorem dX0_takePart_111 : decode cX0_takePart 111 = .ok (.iload_n 3, 1) := by decide +kernel
theorem dX0_takePart_112 : decode cX0_takePart 112 = .ok (.putfield 24, 3) := by decide +kernel
theorem dX0_takePart_115 : decode cX0_takePart 115 = .ok (.return_, 1) := by decide +kernel
theorem dX0_keepPart_0 : decode cX0_keepPart 0 = .ok (.aload_n 0, 1) := by decide +kernel
theorem dX0_keepPart_1 : decode cX0_keepPart 1 = .ok (.aload_n 0, 1) := by decide +kernel
theorem dX0_keepPart_2 : decode cX0_keepPart 2 = .ok (.iload_n 1, 1) := by decide +kernel
theorem dX0_keepPart_3 : decode cX0_keepPart 3 = .ok (.invokevirtual 41, 3) := by decide +kernel
theorem dX0_keepPart_6 : decode cX0_keepPart 6 = .ok (.return_, 1) := by decide +kernel
theorem dX0_takeOnlyFault_0 : decode cX0_takeOnlyFault 0 = .ok (.aload_n 0, 1) := by decide +kernel
theorem dX0_takeOnlyFault_1 : decode cX0_takeOnlyFault 1 = .ok (.iconst 0, 1) := by decide +kernel
theorem dX0_takeOnlyFault_2 : decode cX0_takeOnlyFault 2 = .ok (.putfield 24, 3) := by decide +kernel
theorem dX0_takeOnlyFault_5 : decode cX0_takeOnlyFault 5 = .ok (.aload_n 0, 1) := by decide +kernel
theorem dX0_takeOnlyFault_6 : decode cX0_takeOnlyFault 6 = .ok (.iload_n 1, 1) := by decide +kernel
theorem dX0_takeOnlyFault_7 : decode cX0_takeOnlyFault 7 = .ok (.iload_n 2, 1) := by decide +kernel
theorem dX0_takeOnlyFault_8 : decode cX0_takeOnlyFault 8 = .ok (.iload_n 3, 1) := by decide +kernel
theorem dX0_takeOnlyFault_9 : decode cX0_takeOnlyFault 9 = .ok (.invokevirtual 49, 3) := by decide +kernel
theorem dX0_takeOnlyFault_12 : decode cX0_takeOnlyFault 12 = .ok (.pop, 1) := by decide +kernel
theorem dX0_takeOnlyFault_13 : decode cX0_takeOnlyFault 13 = .ok (.return_, 1) := by decide +kernel
theorem dX0_setting_0 : decode cX0_setting 0 = .ok (.iload_n 1, 1) := by decide +kernel
theorem dX0_setting_1 : decode cX0_setting 1 = .ok (.ifCond .lt 18, 3) := by decide +kernel
theorem dX0_setting_4 : decode cX0_setting 4 = .ok (.iload_n 1, 1) := by decide +kernel
theorem dX0_setting_5 : decode cX0_setting 5 = .ok (.bipush 8, 2) := by decide +kernel
theorem dX0_setting_7 : decode cX0_setting 7 = .ok (.if_icmp .ge 12, 3) := by decide +kernel
theorem dX0_setting_10 : decode cX0_setting 10 = .ok (.aload_n 0, 1) := by decide +kernel
theorem dX0_setting_11 : decode cX0_setting 11 = .ok (.getfield 9, 3) := by decide +kernel
theorem dX0_setting_14 : decode cX0_setting 14 = .ok (.iload_n 1, 1) := by decide +kernel
theorem dX0_setting_15 : decode cX0_setting 15 = .ok (.iaload, 1) := by decide +kernel
theorem dX0_setting_16 : decode cX0_setting 16 = .ok (.goto 4, 3) := by decide +kernel
theorem dX0_setting_19 : decode cX0_setting 19 = .ok (.iconst 0, 1) := by decide +kernel
theorem dX0_setting_20 : decode cX0_setting 20 = .ok (.ireturn, 1) := by decide +kernel
theorem dX0_changeSetting_0 : decode cX0_changeSetting 0 = .ok (.iload_n 1, 1) := by decide +kernel
theorem dX0_changeSetting_1 : decode cX0_changeSetting 1 = .ok (.ifCond .lt 16, 3) := by decide +kernel
theorem dX0_changeSetting_4 : decode cX0_changeSetting 4 = .ok (.iload_n 1, 1) := by decide +kernel
theorem dX0_changeSetting_5 : decode cX0_changeSetting 5 = .ok (.bipush 8, 2) := by decide +kernel
theorem dX0_changeSetting_7 : decode cX0_changeSetting 7 = .ok (.if_icmp .ge 10, 3) := by decide +kernel
theorem dX0_changeSetting_10 : decode cX0_changeSetting 10 = .ok (.aload_n 0, 1) := by decide +kernel
theorem dX0_changeSetting_11 : decode cX0_changeSetting 11 = .ok (.getfield 9, 3) := by decide +kernel
theorem dX0_changeSetting_14 : decode cX0_changeSetting 14 = .ok (.iload_n 1, 1) := by decide +kernel
theorem dX0_changeSetting_15 : decode cX0_changeSetting 15 = .ok (.iload_n 2, 1) := by decide +kernel
theorem dX0_changeSetting_16 : decode cX0_changeSetting 16 = .ok (.iastore, 1) := by decide +kernel
theorem dX0_changeSetting_17 : decode cX0_changeSetting 17 = .ok (.return_, 1) := by decide +kernel
theorem dX0_recordedStates_0 : decode cX0_recordedStates 0 = .ok (.aload_n 0, 1) := by decide +kernel
theorem dX0_recordedStates_1 : decode cX0_recordedStates 1 = .ok (.getfield 31, 3) := by decide +kernel
theorem dX0_recordedStates_4 : decode cX0_recordedStates 4 = .ok (.areturn, 1) := by decide +kernel
theorem dX0_faultCount_0 : decode cX0_faultCount 0 = .ok (.aload_n 0, 1) := by decide +kernel
theorem dX0_faultCount_1 : decode cX0_faultCount 1 = .ok (.getfield 24, 3) := by decide +kernel
theorem dX0_faultCount_4 : decode cX0_faultCount 4 = .ok (.ireturn, 1) := by decide +kernel
theorem dX0_faultPart_0 : decode cX0_faultPart 0 = .ok (.iload_n 1, 1) := by decide +kernel
theorem dX0_faultPart_1 : decode cX0_faultPart 1 = .ok (.ifCond .lt 17, 3) := by decide +kernel
theorem dX0_faultPart_4 : decode cX0_faultPart 4 = .ok (.iload_n 1, 1) := by decide +kernel
theorem dX0_faultPart_5 : decode cX0_faultPart 5 = .ok (.aload_n 0, 1) := by decide +kernel
theorem dX0_faultPart_6 : decode cX0_faultPart 6 = .ok (.getfield 24, 3) := by decide +kernel
theorem dX0_faultPart_9 : decode cX0_faultPart 9 = .ok (.if_icmp .ge 9, 3) := by decide +kernel
theorem dX0_faultPart_12 : decode cX0_faultPart 12 = .ok (.iload_n 1, 1) := by decide +kernel
theorem dX0_faultPart_13 : decode cX0_faultPart 13 = .ok (.bipush 10, 2) := by decide +kernel
theorem dX0_faultPart_15 : decode cX0_faultPart 15 = .ok (.if_icmp .lt 5, 3) := by decide +kernel
theorem dX0_faultPart_18 : decode cX0_faultPart 18 = .ok (.iconst (-1), 1) := by decide +kernel
theorem dX0_faultPart_19 : decode cX0_faultPart 19 = .ok (.ireturn, 1) := by decide +kernel
theorem dX0_faultPart_20 : decode cX0_faultPart 20 = .ok (.iload_n 2, 1) := by decide +kernel
theorem dX0_faultPart_21 : decode cX0_faultPart 21 = .ok (.lookupswitch 41 #[(0, 27), (1, 34)], 27) := by decide +kernel
theorem dX0_faultPart_48 : decode cX0_faultPart 48 = .ok (.aload_n 0, 1) := by decide +kernel
theorem dX0_faultPart_49 : decode cX0_faultPart 49 = .ok (.getfield 15, 3) := by decide +kernel
theorem dX0_faultPart_52 : decode cX0_faultPart 52 = .ok (.iload_n 1, 1) := by decide +kernel
theorem dX0_faultPart_53 : decode cX0_faultPart 53 = .ok (.iaload, 1) := by decide +kernel
theorem dX0_faultPart_54 : decode cX0_faultPart 54 = .ok (.ireturn, 1) := by decide +kernel
theorem dX0_faultPart_55 : decode cX0_faultPart 55 = .ok (.aload_n 0, 1) := by decide +kernel
theorem dX0_faultPart_56 : decode cX0_faultPart 56 = .ok (.getfield 18, 3) := by decide +kernel
theorem dX0_faultPart_59 : decode cX0_faultPart 59 = .ok (.iload_n 1, 1) := by decide +kernel
theorem dX0_faultPart_60 : decode cX0_faultPart 60 = .ok (.iaload, 1) := by decide +kernel
theorem dX0_faultPart_61 : decode cX0_faultPart 61 = .ok (.ireturn, 1) := by decide +kernel
theorem dX0_faultPart_62 : decode cX0_faultPart 62 = .ok (.aload_n 0, 1) := by decide +kernel
theorem dX0_faultPart_63 : decode cX0_faultPart 63 = .ok (.getfield 21, 3) := by decide +kernel
theorem dX0_faultPart_66 : decode cX0_faultPart 66 = .ok (.iload_n 1, 1) := by decide +kernel
theorem dX0_faultPart_67 : decode cX0_faultPart 67 = .ok (.iaload, 1) := by decide +kernel
theorem dX0_faultPart_68 : decode cX0_faultPart 68 = .ok (.ireturn, 1) := by decide +kernel
theorem dX0_findFault_0 : decode cX0_findFault 0 = .ok (.iconst 0, 1) := by decide +kernel
theorem dX0_findFault_1 : decode cX0_findFault 1 = .ok (.istore_n 3, 1) := by decide +kernel
theorem dX0_findFault_2 : decode cX0_findFault 2 = .ok (.iload_n 3, 1) := by decide +kernel
theorem dX0_findFault_3 : decode cX0_findFault 3 = .ok (.bipush 10, 2) := by decide +kernel
theorem dX0_findFault_5 : decode cX0_findFault 5 = .ok (.if_icmp .ge 39, 3) := by decide +kernel
theorem dX0_findFault_8 : decode cX0_findFault 8 = .ok (.iload_n 3, 1) := by decide +kernel
theorem dX0_findFault_9 : decode cX0_findFault 9 = .ok (.aload_n 0, 1) := by decide +kernel
theorem dX0_findFault_10 : decode cX0_findFault 10 = .ok (.getfield 24, 3) := by decide +kernel
theorem dX0_findFault_13 : decode cX0_findFault 13 = .ok (.if_icmp .ge 31, 3) := by decide +kernel
theorem dX0_findFault_16 : decode cX0_findFault 16 = .ok (.aload_n 0, 1) := by decide +kernel
theorem dX0_findFault_17 : decode cX0_findFault 17 = .ok (.getfield 18, 3) := by decide +kernel
theorem dX0_findFault_20 : decode cX0_findFault 20 = .ok (.iload_n 3, 1) := by decide +kernel
theorem dX0_findFault_21 : decode cX0_findFault 21 = .ok (.iaload, 1) := by decide +kernel
theorem dX0_findFault_22 : decode cX0_findFault 22 = .ok (.iload_n 2, 1) := by decide +kernel
theorem dX0_findFault_23 : decode cX0_findFault 23 = .ok (.if_icmp .ne 15, 3) := by decide +kernel
theorem dX0_findFault_26 : decode cX0_findFault 26 = .ok (.aload_n 0, 1) := by decide +kernel
theorem dX0_findFault_27 : decode cX0_findFault 27 = .ok (.getfield 15, 3) := by decide +kernel
theorem dX0_findFault_30 : decode cX0_findFault 30 = .ok (.iload_n 3, 1) := by decide +kernel
theorem dX0_findFault_31 : decode cX0_findFault 31 = .ok (.iaload, 1) := by decide +kernel
theorem dX0_findFault_32 : decode cX0_findFault 32 = .ok (.iload_n 1, 1) := by decide +kernel
theorem dX0_findFault_33 : decode cX0_findFault 33 = .ok (.if_icmp .ne 5, 3) := by decide +kernel
theorem dX0_findFault_36 : decode cX0_findFault 36 = .ok (.iload_n 3, 1) := by decide +kernel
theorem dX0_findFault_37 : decode cX0_findFault 37 = .ok (.ireturn, 1) := by decide +kernel
theorem dX0_findFault_38 : decode cX0_findFault 38 = .ok (.iinc 3 1, 3) := by decide +kernel
theorem dX0_findFault_41 : decode cX0_findFault 41 = .ok (.goto (-39), 3) := by decide +kernel
theorem dX0_findFault_44 : decode cX0_findFault 44 = .ok (.iconst (-1), 1) := by decide +kernel
theorem dX0_findFault_45 : decode cX0_findFault 45 = .ok (.ireturn, 1) := by decide +kernel
theorem dX0_insert_0 : decode cX0_insert 0 = .ok (.aload_n 0, 1) := by decide +kernel
theorem dX0_insert_1 : decode cX0_insert 1 = .ok (.getfield 24, 3) := by decide +kernel
theorem dX0_insert_4 : decode cX0_insert 4 = .ok (.ifCond .lt 12, 3) := by decide +kernel
theorem dX0_insert_7 : decode cX0_insert 7 = .ok (.aload_n 0, 1) := by decide +kernel
theorem dX0_insert_8 : decode cX0_insert 8 = .ok (.getfield 24, 3) := by decide +kernel
theorem dX0_insert_11 : decode cX0_insert 11 = .ok (.bipush 10, 2) := by decide +kernel
theorem dX0_insert_13 : decode cX0_insert 13 = .ok (.if_icmp .lt 5, 3) := by decide +kernel
theorem dX0_insert_16 : decode cX0_insert 16 = .ok (.iconst (-1), 1) := by decide +kernel
theorem dX0_insert_17 : decode cX0_insert 17 = .ok (.ireturn, 1) := by decide +kernel
theorem dX0_insert_18 : decode cX0_insert 18 = .ok (.iconst 0, 1) := by decide +kernel
theorem dX0_insert_19 : decode cX0_insert 19 = .ok (.istore 4, 2) := by decide +kernel
theorem dX0_insert_21 : decode cX0_insert 21 = .ok (.iconst 0, 1) := by decide +kernel
theorem dX0_insert_22 : decode cX0_insert 22 = .ok (.istore 5, 2) := by decide +kernel
theorem dX0_insert_24 : decode cX0_insert 24 = .ok (.iload 5, 2) := by decide +kernel
theorem dX0_insert_26 : decode cX0_insert 26 = .ok (.aload_n 0, 1) := by decide +kernel
theorem dX0_insert_27 : decode cX0_insert 27 = .ok (.getfield 24, 3) := by decide +kernel
theorem dX0_insert_30 : decode cX0_insert 30 = .ok (.if_icmp .ge 48, 3) := by decide +kernel
theorem dX0_insert_33 : decode cX0_insert 33 = .ok (.aload_n 0, 1) := by decide +kernel
theorem dX0_insert_34 : decode cX0_insert 34 = .ok (.getfield 18, 3) := by decide +kernel
theorem dX0_insert_37 : decode cX0_insert 37 = .ok (.iload 5, 2) := by decide +kernel
theorem dX0_insert_39 : decode cX0_insert 39 = .ok (.iaload, 1) := by decide +kernel
theorem dX0_insert_40 : decode cX0_insert 40 = .ok (.iload_n 2, 1) := by decide +kernel
theorem dX0_insert_41 : decode cX0_insert 41 = .ok (.if_icmp .lt 25, 3) := by decide +kernel
theorem dX0_insert_44 : decode cX0_insert 44 = .ok (.aload_n 0, 1) := by decide +kernel
theorem dX0_insert_45 : decode cX0_insert 45 = .ok (.getfield 18, 3) := by decide +kernel
theorem dX0_insert_48 : decode cX0_insert 48 = .ok (.iload 5, 2) := by decide +kernel
theorem dX0_insert_50 : decode cX0_insert 50 = .ok (.iaload, 1) := by decide +kernel
theorem dX0_insert_51 : decode cX0_insert 51 = .ok (.iload_n 2, 1) := by decide +kernel
theorem dX0_insert_52 : decode cX0_insert 52 = .ok (.if_icmp .ne 20, 3) := by decide +kernel
theorem dX0_insert_55 : decode cX0_insert 55 = .ok (.aload_n 0, 1) := by decide +kernel
theorem dX0_insert_56 : decode cX0_insert 56 = .ok (.getfield 15, 3) := by decide +kernel
theorem dX0_insert_59 : decode cX0_insert 59 = .ok (.iload 5, 2) := by decide +kernel
theorem dX0_insert_61 : decode cX0_insert 61 = .ok (.iaload, 1) := by decide +kernel
theorem dX0_insert_62 : decode cX0_insert 62 = .ok (.iload_n 1, 1) := by decide +kernel
theorem dX0_insert_63 : decode cX0_insert 63 = .ok (.if_icmp .ge 9, 3) := by decide +kernel
theorem dX0_insert_66 : decode cX0_insert 66 = .ok (.iload 5, 2) := by decide +kernel
theorem dX0_insert_68 : decode cX0_insert 68 = .ok (.iconst 1, 1) := by decide +kernel
theorem dX0_insert_69 : decode cX0_insert 69 = .ok (.iadd, 1) := by decide +kernel
theorem dX0_insert_70 : decode cX0_insert 70 = .ok (.istore 4, 2) := by decide +kernel
theorem dX0_insert_72 : decode cX0_insert 72 = .ok (.iinc 5 1, 3) := by decide +kernel
theorem dX0_insert_75 : decode cX0_insert 75 = .ok (.goto (-51), 3) := by decide +kernel
theorem dX0_insert_78 : decode cX0_insert 78 = .ok (.aload_n 0, 1) := by decide +kernel
theorem dX0_insert_79 : decode cX0_insert 79 = .ok (.getfield 24, 3) := by decide +kernel
theorem dX0_insert_82 : decode cX0_insert 82 = .ok (.istore 5, 2) := by decide +kernel
theorem dX0_insert_84 : decode cX0_insert 84 = .ok (.iload 5, 2) := by decide +kernel
theorem dX0_insert_86 : decode cX0_insert 86 = .ok (.iload 4, 2) := by decide +kernel
theorem dX0_insert_88 : decode cX0_insert 88 = .ok (.if_icmp .le 57, 3) := by decide +kernel
theorem dX0_insert_91 : decode cX0_insert 91 = .ok (.aload_n 0, 1) := by decide +kernel
theorem dX0_insert_92 : decode cX0_insert 92 = .ok (.getfield 15, 3) := by decide +kernel
theorem dX0_insert_95 : decode cX0_insert 95 = .ok (.iload 5, 2) := by decide +kernel
theorem dX0_insert_97 : decode cX0_insert 97 = .ok (.aload_n 0, 1) := by decide +kernel
theorem dX0_insert_98 : decode cX0_insert 98 = .ok (.getfield 15, 3) := by decide +kernel
theorem dX0_insert_101 : decode cX0_insert 101 = .ok (.iload 5, 2) := by decide +kernel
theorem dX0_insert_103 : decode cX0_insert 103 = .ok (.iconst 1, 1) := by decide +kernel
theorem dX0_insert_104 : decode cX0_insert 104 = .ok (.isub, 1) := by decide +kernel
theorem dX0_insert_105 : decode cX0_insert 105 = .ok (.iaload, 1) := by decide +kernel
theorem dX0_insert_106 : decode cX0_insert 106 = .ok (.iastore, 1) := by decide +kernel
theorem dX0_insert_107 : decode cX0_insert 107 = .ok (.aload_n 0, 1) := by decide +kernel
theorem dX0_insert_108 : decode cX0_insert 108 = .ok (.getfield 18, 3) := by decide +kernel
theorem dX0_insert_111 : decode cX0_insert 111 = .ok (.iload 5, 2) := by decide +kernel
theorem dX0_insert_113 : decode cX0_insert 113 = .ok (.aload_n 0, 1) := by decide +kernel
theorem dX0_insert_114 : decode cX0_insert 114 = .ok (.getfield 18, 3) := by decide +kernel
theorem dX0_insert_117 : decode cX0_insert 117 = .ok (.iload 5, 2) := by decide +kernel
theorem dX0_insert_119 : decode cX0_insert 119 = .ok (.iconst 1, 1) := by decide +kernel
theorem dX0_insert_120 : decode cX0_insert 120 = .ok (.isub, 1) := by decide +kernel
theorem dX0_insert_121 : decode cX0_insert 121 = .ok (.iaload, 1) := by decide +kernel
theorem dX0_insert_122 : decode cX0_insert 122 = .ok (.iastore, 1) := by decide +kernel
theorem dX0_insert_123 : decode cX0_insert 123 = .ok (.aload_n 0, 1) := by decide +kernel
theorem dX0_insert_124 : decode cX0_insert 124 = .ok (.getfield 21, 3) := by decide +kernel
theorem dX0_insert_127 : decode cX0_insert 127 = .ok (.iload 5, 2) := by decide +kernel
theorem dX0_insert_129 : decode cX0_insert 129 = .ok (.aload_n 0, 1) := by decide +kernel
theorem dX0_insert_130 : decode cX0_insert 130 = .ok (.getfield 21, 3) := by decide +kernel
theorem dX0_insert_133 : decode cX0_insert 133 = .ok (.iload 5, 2) := by decide +kernel
theorem dX0_insert_135 : decode cX0_insert 135 = .ok (.iconst 1, 1) := by decide +kernel
theorem dX0_insert_136 : decode cX0_insert 136 = .ok (.isub, 1) := by decide +kernel
theorem dX0_insert_137 : decode cX0_insert 137 = .ok (.iaload, 1) := by decide +kernel
theorem dX0_insert_138 : decode cX0_insert 138 = .ok (.iastore, 1) := by decide +kernel
theorem dX0_insert_139 : decode cX0_insert 139 = .ok (.iinc 5 (-1), 3) := by decide +kernel
theorem dX0_insert_142 : decode cX0_insert 142 = .ok (.goto (-58), 3) := by decide +kernel
theorem dX0_insert_145 : decode cX0_insert 145 = .ok (.aload_n 0, 1) := by decide +kernel
theorem dX0_insert_146 : decode cX0_insert 146 = .ok (.getfield 15, 3) := by decide +kernel
theorem dX0_insert_149 : decode cX0_insert 149 = .ok (.iload 4, 2) := by decide +kernel
theorem dX0_insert_151 : decode cX0_insert 151 = .ok (.iload_n 1, 1) := by decide +kernel
theorem dX0_insert_152 : decode cX0_insert 152 = .ok (.iastore, 1) := by decide +kernel
theorem dX0_insert_153 : decode cX0_insert 153 = .ok (.aload_n 0, 1) := by decide +kernel
theorem dX0_insert_154 : decode cX0_insert 154 = .ok (.getfield 18, 3) := by decide +kernel
theorem dX0_insert_157 : decode cX0_insert 157 = .ok (.iload 4, 2) := by decide +kernel
theorem dX0_insert_159 : decode cX0_insert 159 = .ok (.iload_n 2, 1) := by decide +kernel
theorem dX0_insert_160 : decode cX0_insert 160 = .ok (.iastore, 1) := by decide +kernel
theorem dX0_insert_161 : decode cX0_insert 161 = .ok (.aload_n 0, 1) := by decide +kernel
theorem dX0_insert_162 : decode cX0_insert 162 = .ok (.getfield 21, 3) := by decide +kernel
theorem dX0_insert_165 : decode cX0_insert 165 = .ok (.iload 4, 2) := by decide +kernel
theorem dX0_insert_167 : decode cX0_insert 167 = .ok (.iload_n 3, 1) := by decide +kernel
theorem dX0_insert_168 : decode cX0_insert 168 = .ok (.iastore, 1) := by decide +kernel
theorem dX0_insert_169 : decode cX0_insert 169 = .ok (.aload_n 0, 1) := by decide +kernel
theorem dX0_insert_170 : decode cX0_insert 170 = .ok (.dup, 1) := by decide +kernel
theorem dX0_insert_171 : decode cX0_insert 171 = .ok (.getfield 24, 3) := by decide +kernel
theorem dX0_insert_174 : decode cX0_insert 174 = .ok (.iconst 1, 1) := by decide +kernel
theorem dX0_insert_175 : decode cX0_insert 175 = .ok (.iadd, 1) := by decide +kernel
theorem dX0_insert_176 : decode cX0_insert 176 = .ok (.putfield 24, 3) := by decide +kernel
theorem dX0_insert_179 : decode cX0_insert 179 = .ok (.iload 4, 2) := by decide +kernel
theorem dX0_insert_181 : decode cX0_insert 181 = .ok (.ireturn, 1) := by decide +kernel
theorem dX0_delete_0 : decode cX0_delete 0 = .ok (.iload_n 1, 1) := by decide +kernel
theorem dX0_delete_1 : decode cX0_delete 1 = .ok (.ifCond .lt 11, 3) := by decide +kernel
theorem dX0_delete_4 : decode cX0_delete 4 = .ok (.iload_n 1, 1) := by decide +kernel
theorem dX0_delete_5 : decode cX0_delete 5 = .ok (.aload_n 0, 1) := by decide +kernel
theorem dX0_delete_6 : decode cX0_delete 6 = .ok (.getfield 24, 3) := by decide +kernel
theorem dX0_delete_9 : decode cX0_delete 9 = .ok (.if_icmp .lt 4, 3) := by decide +kernel
theorem dX0_delete_12 : decode cX0_delete 12 = .ok (.return_, 1) := by decide +kernel
theorem dX0_delete_13 : decode cX0_delete 13 = .ok (.iload_n 1, 1) := by decide +kernel
theorem dX0_delete_14 : decode cX0_delete 14 = .ok (.iconst 1, 1) := by decide +kernel
theorem dX0_delete_15 : decode cX0_delete 15 = .ok (.iadd, 1) := by decide +kernel
theorem dX0_delete_16 : decode cX0_delete 16 = .ok (.istore_n 2, 1) := by decide +kernel
theorem dX0_delete_17 : decode cX0_delete 17 = .ok (.iload_n 2, 1) := by decide +kernel
theorem dX0_delete_18 : decode cX0_delete 18 = .ok (.bipush 10, 2) := by decide +kernel
theorem dX0_delete_20 : decode cX0_delete 20 = .ok (.if_icmp .ge 59, 3) := by decide +kernel
theorem dX0_delete_23 : decode cX0_delete 23 = .ok (.iload_n 2, 1) := by decide +kernel
theorem dX0_delete_24 : decode cX0_delete 24 = .ok (.aload_n 0, 1) := by decide +kernel
theorem dX0_delete_25 : decode cX0_delete 25 = .ok (.getfield 24, 3) := by decide +kernel
theorem dX0_delete_28 : decode cX0_delete 28 = .ok (.if_icmp .ge 51, 3) := by decide +kernel
theorem dX0_delete_31 : decode cX0_delete 31 = .ok (.aload_n 0, 1) := by decide +kernel
theorem dX0_delete_32 : decode cX0_delete 32 = .ok (.getfield 15, 3) := by decide +kernel
theorem dX0_delete_35 : decode cX0_delete 35 = .ok (.iload_n 2, 1) := by decide +kernel
theorem dX0_delete_36 : decode cX0_delete 36 = .ok (.iconst 1, 1) := by decide +kernel
theorem dX0_delete_37 : decode cX0_delete 37 = .ok (.isub, 1) := by decide +kernel
theorem dX0_delete_38 : decode cX0_delete 38 = .ok (.aload_n 0, 1) := by decide +kernel
theorem dX0_delete_39 : decode cX0_delete 39 = .ok (.getfield 15, 3) := by decide +kernel
theorem dX0_delete_42 : decode cX0_delete 42 = .ok (.iload_n 2, 1) := by decide +kernel
theorem dX0_delete_43 : decode cX0_delete 43 = .ok (.iaload, 1) := by decide +kernel
theorem dX0_delete_44 : decode cX0_delete 44 = .ok (.iastore, 1) := by decide +kernel
theorem dX0_delete_45 : decode cX0_delete 45 = .ok (.aload_n 0, 1) := by decide +kernel
theorem dX0_delete_46 : decode cX0_delete 46 = .ok (.getfield 18, 3) := by decide +kernel
theorem dX0_delete_49 : decode cX0_delete 49 = .ok (.iload_n 2, 1) := by decide +kernel
theorem dX0_delete_50 : decode cX0_delete 50 = .ok (.iconst 1, 1) := by decide +kernel
theorem dX0_delete_51 : decode cX0_delete 51 = .ok (.isub, 1) := by decide +kernel
theorem dX0_delete_52 : decode cX0_delete 52 = .ok (.aload_n 0, 1) := by decide +kernel
theorem dX0_delete_53 : decode cX0_delete 53 = .ok (.getfield 18, 3) := by decide +kernel
theorem dX0_delete_56 : decode cX0_delete 56 = .ok (.iload_n 2, 1) := by decide +kernel
theorem dX0_delete_57 : decode cX0_delete 57 = .ok (.iaload, 1) := by decide +kernel
theorem dX0_delete_58 : decode cX0_delete 58 = .ok (.iastore, 1) := by decide +kernel
theorem dX0_delete_59 : decode cX0_delete 59 = .ok (.aload_n 0, 1) := by decide +kernel
theorem dX0_delete_60 : decode cX0_delete 60 = .ok (.getfield 21, 3) := by decide +kernel
theorem dX0_delete_63 : decode cX0_delete 63 = .ok (.iload_n 2, 1) := by decide +kernel
theorem dX0_delete_64 : decode cX0_delete 64 = .ok (.iconst 1, 1) := by decide +kernel
theorem dX0_delete_65 : decode cX0_delete 65 = .ok (.isub, 1) := by decide +kernel
theorem dX0_delete_66 : decode cX0_delete 66 = .ok (.aload_n 0, 1) := by decide +kernel
theorem dX0_delete_67 : decode cX0_delete 67 = .ok (.getfield 21, 3) := by decide +kernel
theorem dX0_delete_70 : decode cX0_delete 70 = .ok (.iload_n 2, 1) := by decide +kernel
theorem dX0_delete_71 : decode cX0_delete 71 = .ok (.iaload, 1) := by decide +kernel
theorem dX0_delete_72 : decode cX0_delete 72 = .ok (.iastore, 1) := by decide +kernel
theorem dX0_delete_73 : decode cX0_delete 73 = .ok (.iinc 2 1, 3) := by decide +kernel
theorem dX0_delete_76 : decode cX0_delete 76 = .ok (.goto (-59), 3) := by decide +kernel
theorem dX0_delete_79 : decode cX0_delete 79 = .ok (.aload_n 0, 1) := by decide +kernel
theorem dX0_delete_80 : decode cX0_delete 80 = .ok (.dup, 1) := by decide +kernel
theorem dX0_delete_81 : decode cX0_delete 81 = .ok (.getfield 24, 3) := by decide +kernel
theorem dX0_delete_84 : decode cX0_delete 84 = .ok (.iconst 1, 1) := by decide +kernel
theorem dX0_delete_85 : decode cX0_delete 85 = .ok (.isub, 1) := by decide +kernel
theorem dX0_delete_86 : decode cX0_delete 86 = .ok (.putfield 24, 3) := by decide +kernel
theorem dX0_delete_89 : decode cX0_delete 89 = .ok (.return_, 1) := by decide +kernel
theorem dX0_deleteAll_0 : decode cX0_deleteAll 0 = .ok (.aload_n 0, 1) := by decide +kernel
theorem dX0_deleteAll_1 : decode cX0_deleteAll 1 = .ok (.iconst 0, 1) := by decide +kernel
theorem dX0_deleteAll_2 : decode cX0_deleteAll 2 = .ok (.putfield 24, 3) := by decide +kernel
theorem dX0_deleteAll_5 : decode cX0_deleteAll 5 = .ok (.return_, 1) := by decide +kernel
theorem dX0_changeAmount_0 : decode cX0_changeAmount 0 = .ok (.iload_n 1, 1) := by decide +kernel
theorem dX0_changeAmount_1 : decode cX0_changeAmount 1 = .ok (.ifCond .lt 24, 3) := by decide +kernel
theorem dX0_changeAmount_4 : decode cX0_changeAmount 4 = .ok (.iload_n 1, 1) := by decide +kernel
theorem dX0_changeAmount_5 : decode cX0_changeAmount 5 = .ok (.aload_n 0, 1) := by decide +kernel
theorem dX0_changeAmount_6 : decode cX0_changeAmount 6 = .ok (.getfield 24, 3) := by decide +kernel
theorem dX0_changeAmount_9 : decode cX0_changeAmount 9 = .ok (.if_icmp .ge 16, 3) := by decide +kernel
theorem dX0_changeAmount_12 : decode cX0_changeAmount 12 = .ok (.iload_n 1, 1) := by decide +kernel
theorem dX0_changeAmount_13 : decode cX0_changeAmount 13 = .ok (.bipush 10, 2) := by decide +kernel
theorem dX0_changeAmount_15 : decode cX0_changeAmount 15 = .ok (.if_icmp .ge 10, 3) := by decide +kernel
theorem dX0_changeAmount_18 : decode cX0_changeAmount 18 = .ok (.aload_n 0, 1) := by decide +kernel
theorem dX0_changeAmount_19 : decode cX0_changeAmount 19 = .ok (.getfield 21, 3) := by decide +kernel
theorem dX0_changeAmount_22 : decode cX0_changeAmount 22 = .ok (.iload_n 1, 1) := by decide +kernel
theorem dX0_changeAmount_23 : decode cX0_changeAmount 23 = .ok (.iload_n 2, 1) := by decide +kernel
theorem dX0_changeAmount_24 : decode cX0_changeAmount 24 = .ok (.iastore, 1) := by decide +kernel
theorem dX0_changeAmount_25 : decode cX0_changeAmount 25 = .ok (.return_, 1) := by decide +kernel
theorem dX1_init_0 : decode cX1_init 0 = .ok (.aload_n 0, 1) := by decide +kernel
theorem dX1_init_1 : decode cX1_init 1 = .ok (.invokespecial 3, 3) := by decide +kernel
theorem dX1_init_4 : decode cX1_init 4 = .ok (.aload_n 0, 1) := by decide +kernel
theorem dX1_init_5 : decode cX1_init 5 = .ok (.sipush 240, 3) := by decide +kernel
theorem dX1_init_8 : decode cX1_init 8 = .ok (.newarray .int, 2) := by decide +kernel
theorem dX1_init_10 : decode cX1_init 10 = .ok (.putfield 9, 3) := by decide +kernel
theorem dX1_init_13 : decode cX1_init 13 = .ok (.return_, 1) := by decide +kernel
theorem dX1_begin_0 : decode cX1_begin 0 = .ok (.aload_n 0, 1) := by decide +kernel
theorem dX1_begin_1 : decode cX1_begin 1 = .ok (.iconst 0, 1) := by decide +kernel
theorem dX1_begin_2 : decode cX1_begin 2 = .ok (.putfield 15, 3) := by decide +kernel
theorem dX1_begin_5 : decode cX1_begin 5 = .ok (.aload_n 0, 1) := by decide +kernel
theorem dX1_begin_6 : decode cX1_begin 6 = .ok (.iconst 1, 1) := by decide +kernel
theorem dX1_begin_7 : decode cX1_begin 7 = .ok (.iload_n 1, 1) := by decide +kernel
theorem dX1_begin_8 : decode cX1_begin 8 = .ok (.ishl, 1) := by decide +kernel
theorem dX1_begin_9 : decode cX1_begin 9 = .ok (.iconst 1, 1) := by decide +kernel
theorem dX1_begin_10 : decode cX1_begin 10 = .ok (.isub, 1) := by decide +kernel
theorem dX1_begin_11 : decode cX1_begin 11 = .ok (.putfield 19, 3) := by decide +kernel
theorem dX1_begin_14 : decode cX1_begin 14 = .ok (.aload_n 0, 1) := by decide +kernel
theorem dX1_begin_15 : decode cX1_begin 15 = .ok (.iconst 0, 1) := by decide +kernel
theorem dX1_begin_16 : decode cX1_begin 16 = .ok (.putfield 22, 3) := by decide +kernel
theorem dX1_begin_19 : decode cX1_begin 19 = .ok (.aload_n 0, 1) := by decide +kernel
theorem dX1_begin_20 : decode cX1_begin 20 = .ok (.iconst (-1), 1) := by decide +kernel
theorem dX1_begin_21 : decode cX1_begin 21 = .ok (.putfield 25, 3) := by decide +kernel
theorem dX1_begin_24 : decode cX1_begin 24 = .ok (.aload_n 0, 1) := by decide +kernel
theorem dX1_begin_25 : decode cX1_begin 25 = .ok (.iconst 0, 1) := by decide +kernel
theorem dX1_begin_26 : decode cX1_begin 26 = .ok (.putfield 28, 3) := by decide +kernel
theorem dX1_begin_29 : decode cX1_begin 29 = .ok (.aload_n 0, 1) := by decide +kernel
theorem dX1_begin_30 : decode cX1_begin 30 = .ok (.iconst 0, 1) := by decide +kernel
theorem dX1_begin_31 : decode cX1_begin 31 = .ok (.putfield 32, 3) := by decide +kernel
theorem dX1_begin_34 : decode cX1_begin 34 = .ok (.aload_n 0, 1) := by decide +kernel
theorem dX1_begin_35 : decode cX1_begin 35 = .ok (.iconst (-1), 1) := by decide +kernel
theorem dX1_begin_36 : decode cX1_begin 36 = .ok (.putfield 35, 3) := by decide +kernel
theorem dX1_begin_39 : decode cX1_begin 39 = .ok (.return_, 1) := by decide +kernel
theorem dX1_put_0 : decode cX1_put 0 = .ok (.aload_n 0, 1) := by decide +kernel
theorem dX1_put_1 : decode cX1_put 1 = .ok (.getfield 15, 3) := by decide +kernel
theorem dX1_put_4 : decode cX1_put 4 = .ok (.ifCond .lt 15, 3) := by decide +kernel
theorem dX1_put_7 : decode cX1_put 7 = .ok (.aload_n 0, 1) := by decide +kernel
theorem dX1_put_8 : decode cX1_put 8 = .ok (.getfield 15, 3) := by decide +kernel
theorem dX1_put_11 : decode cX1_put 11 = .ok (.aload_n 0, 1) := by decide +kernel
theorem dX1_put_12 : decode cX1_put 12 = .ok (.getfield 9, 3) := by decide +kernel
theorem dX1_put_15 : decode cX1_put 15 = .ok (.arraylength, 1) := by decide +kernel
theorem dX1_put_16 : decode cX1_put 16 = .ok (.if_icmp .lt 4, 3) := by decide +kernel
theorem dX1_put_19 : decode cX1_put 19 = .ok (.return_, 1) := by decide +kernel
theorem dX1_put_20 : decode cX1_put 20 = .ok (.aload_n 0, 1) := by decide +kernel
theorem dX1_put_21 : decode cX1_put 21 = .ok (.getfield 9, 3) := by decide +kernel
theorem dX1_put_24 : decode cX1_put 24 = .ok (.aload_n 0, 1) := by decide +kernel
theorem dX1_put_25 : decode cX1_put 25 = .ok (.getfield 15, 3) := by decide +kernel
theorem dX1_put_28 : decode cX1_put 28 = .ok (.iload_n 1, 1) := by decide +kernel
theorem dX1_put_29 : decode cX1_put 29 = .ok (.iastore, 1) := by decide +kernel
theorem dX1_put_30 : decode cX1_put 30 = .ok (.aload_n 0, 1) := by decide +kernel
theorem dX1_put_31 : decode cX1_put 31 = .ok (.dup, 1) := by decide +kernel
theorem dX1_put_32 : decode cX1_put 32 = .ok (.getfield 15, 3) := by decide +kernel
theorem dX1_put_35 : decode cX1_put 35 = .ok (.iconst 1, 1) := by decide +kernel
theorem dX1_put_36 : decode cX1_put 36 = .ok (.iadd, 1) := by decide +kernel
theorem dX1_put_37 : decode cX1_put 37 = .ok (.putfield 15, 3) := by decide +kernel
theorem dX1_put_40 : decode cX1_put 40 = .ok (.aload_n 0, 1) := by decide +kernel
theorem dX1_put_41 : decode cX1_put 41 = .ok (.getfield 22, 3) := by decide +kernel
theorem dX1_put_44 : decode cX1_put 44 = .ok (.iload_n 1, 1) := by decide +kernel
theorem dX1_put_45 : decode cX1_put 45 = .ok (.ishr, 1) := by decide +kernel
theorem dX1_put_46 : decode cX1_put 46 = .ok (.iconst 1, 1) := by decide +kernel
theorem dX1_put_47 : decode cX1_put 47 = .ok (.iand, 1) := by decide +kernel
theorem dX1_put_48 : decode cX1_put 48 = .ok (.ifCond .eq 8, 3) := by decide +kernel
theorem dX1_put_51 : decode cX1_put 51 = .ok (.aload_n 0, 1) := by decide +kernel
theorem dX1_put_52 : decode cX1_put 52 = .ok (.iconst 1, 1) := by decide +kernel
theorem dX1_put_53 : decode cX1_put 53 = .ok (.putfield 28, 3) := by decide +kernel
theorem dX1_put_56 : decode cX1_put 56 = .ok (.iload_n 1, 1) := by decide +kernel
theorem dX1_put_57 : decode cX1_put 57 = .ok (.aload_n 0, 1) := by decide +kernel
theorem dX1_put_58 : decode cX1_put 58 = .ok (.getfield 25, 3) := by decide +kernel
theorem dX1_put_61 : decode cX1_put 61 = .ok (.if_icmp .ge 11, 3) := by decide +kernel
theorem dX1_put_64 : decode cX1_put 64 = .ok (.aload_n 0, 1) := by decide +kernel
theorem dX1_put_65 : decode cX1_put 65 = .ok (.iconst 1, 1) := by decide +kernel
theorem dX1_put_66 : decode cX1_put 66 = .ok (.putfield 32, 3) := by decide +kernel
theorem dX1_put_69 : decode cX1_put 69 = .ok (.goto 8, 3) := by decide +kernel
theorem dX1_put_72 : decode cX1_put 72 = .ok (.aload_n 0, 1) := by decide +kernel
theorem dX1_put_73 : decode cX1_put 73 = .ok (.iload_n 1, 1) := by decide +kernel
theorem dX1_put_74 : decode cX1_put 74 = .ok (.putfield 25, 3) := by decide +kernel
theorem dX1_put_77 : decode cX1_put 77 = .ok (.aload_n 0, 1) := by decide +kernel
theorem dX1_put_78 : decode cX1_put 78 = .ok (.dup, 1) := by decide +kernel
theorem dX1_put_79 : decode cX1_put 79 = .ok (.getfield 22, 3) := by decide +kernel
theorem dX1_put_82 : decode cX1_put 82 = .ok (.iconst 1, 1) := by decide +kernel
theorem dX1_put_83 : decode cX1_put 83 = .ok (.iload_n 1, 1) := by decide +kernel
theorem dX1_put_84 : decode cX1_put 84 = .ok (.ishl, 1) := by decide +kernel
theorem dX1_put_85 : decode cX1_put 85 = .ok (.ior, 1) := by decide +kernel
theorem dX1_put_86 : decode cX1_put 86 = .ok (.putfield 22, 3) := by decide +kernel
theorem dX1_put_89 : decode cX1_put 89 = .ok (.aload_n 0, 1) := by decide +kernel
theorem dX1_put_90 : decode cX1_put 90 = .ok (.getfield 35, 3) := by decide +kernel
theorem dX1_put_93 : decode cX1_put 93 = .ok (.iconst (-1), 1) := by decide +kernel
theorem dX1_put_94 : decode cX1_put 94 = .ok (.if_icmp .ne 19, 3) := by decide +kernel
theorem dX1_put_97 : decode cX1_put 97 = .ok (.aload_n 0, 1) := by decide +kernel
theorem dX1_put_98 : decode cX1_put 98 = .ok (.getfield 22, 3) := by decide +kernel
theorem dX1_put_101 : decode cX1_put 101 = .ok (.aload_n 0, 1) := by decide +kernel
theorem dX1_put_102 : decode cX1_put 102 = .ok (.getfield 19, 3) := by decide +kernel
theorem dX1_put_105 : decode cX1_put 105 = .ok (.if_icmp .ne 8, 3) := by decide +kernel
theorem dX1_put_108 : decode cX1_put 108 = .ok (.aload_n 0, 1) := by decide +kernel
theorem dX1_put_109 : decode cX1_put 109 = .ok (.iload_n 2, 1) := by decide +kernel
theorem dX1_put_110 : decode cX1_put 110 = .ok (.putfield 35, 3) := by decide +kernel
theorem dX1_put_113 : decode cX1_put 113 = .ok (.return_, 1) := by decide +kernel
theorem dX1_itemAt_0 : decode cX1_itemAt 0 = .ok (.iload_n 1, 1) := by decide +kernel
theorem dX1_itemAt_1 : decode cX1_itemAt 1 = .ok (.ifCond .lt 29, 3) := by decide +kernel
theorem dX1_itemAt_4 : decode cX1_itemAt 4 = .ok (.iload_n 1, 1) := by decide +kernel
theorem dX1_itemAt_5 : decode cX1_itemAt 5 = .ok (.aload_n 0, 1) := by decide +kernel
theorem dX1_itemAt_6 : decode cX1_itemAt 6 = .ok (.getfield 15, 3) := by decide +kernel
theorem dX1_itemAt_9 : decode cX1_itemAt 9 = .ok (.if_icmp .ge 21, 3) := by decide +kernel
theorem dX1_itemAt_12 : decode cX1_itemAt 12 = .ok (.iload_n 1, 1) := by decide +kernel
theorem dX1_itemAt_13 : decode cX1_itemAt 13 = .ok (.aload_n 0, 1) := by decide +kernel
theorem dX1_itemAt_14 : decode cX1_itemAt 14 = .ok (.getfield 9, 3) := by decide +kernel
theorem dX1_itemAt_17 : decode cX1_itemAt 17 = .ok (.arraylength, 1) := by decide +kernel
theorem dX1_itemAt_18 : decode cX1_itemAt 18 = .ok (.if_icmp .ge 12, 3) := by decide +kernel
theorem dX1_itemAt_21 : decode cX1_itemAt 21 = .ok (.aload_n 0, 1) := by decide +kernel
theorem dX1_itemAt_22 : decode cX1_itemAt 22 = .ok (.getfield 9, 3) := by decide +kernel
theorem dX1_itemAt_25 : decode cX1_itemAt 25 = .ok (.iload_n 1, 1) := by decide +kernel
theorem dX1_itemAt_26 : decode cX1_itemAt 26 = .ok (.iaload, 1) := by decide +kernel
theorem dX1_itemAt_27 : decode cX1_itemAt 27 = .ok (.goto 4, 3) := by decide +kernel
theorem dX1_itemAt_30 : decode cX1_itemAt 30 = .ok (.iconst (-1), 1) := by decide +kernel
theorem dX1_itemAt_31 : decode cX1_itemAt 31 = .ok (.ireturn, 1) := by decide +kernel
theorem dX1_howMany_0 : decode cX1_howMany 0 = .ok (.aload_n 0, 1) := by decide +kernel
theorem dX1_howMany_1 : decode cX1_howMany 1 = .ok (.getfield 15, 3) := by decide +kernel
theorem dX1_howMany_4 : decode cX1_howMany 4 = .ok (.ireturn, 1) := by decide +kernel
theorem dX1_completeTick_0 : decode cX1_completeTick 0 = .ok (.aload_n 0, 1) := by decide +kernel
theorem dX1_completeTick_1 : decode cX1_completeTick 1 = .ok (.getfield 35, 3) := by decide +kernel
theorem dX1_completeTick_4 : decode cX1_completeTick 4 = .ok (.ireturn, 1) := by decide +kernel
theorem dX1_broken_0 : decode cX1_broken 0 = .ok (.aload_n 0, 1) := by decide +kernel
theorem dX1_broken_1 : decode cX1_broken 1 = .ok (.getfield 35, 3) := by decide +kernel
theorem dX1_broken_4 : decode cX1_broken 4 = .ok (.iconst (-1), 1) := by decide +kernel
theorem dX1_broken_5 : decode cX1_broken 5 = .ok (.if_icmp .ne 7, 3) := by decide +kernel
theorem dX1_broken_8 : decode cX1_broken 8 = .ok (.iconst 1, 1) := by decide +kernel
theorem dX1_broken_9 : decode cX1_broken 9 = .ok (.goto 4, 3) := by decide +kernel
theorem dX1_broken_12 : decode cX1_broken 12 = .ok (.iconst 0, 1) := by decide +kernel
theorem dX1_broken_13 : decode cX1_broken 13 = .ok (.istore_n 2, 1) := by decide +kernel
theorem dX1_broken_14 : decode cX1_broken 14 = .ok (.iload_n 2, 1) := by decide +kernel
theorem dX1_broken_15 : decode cX1_broken 15 = .ok (.aload_n 0, 1) := by decide +kernel
theorem dX1_broken_16 : decode cX1_broken 16 = .ok (.getfield 28, 3) := by decide +kernel
theorem dX1_broken_19 : decode cX1_broken 19 = .ok (.ifCond .eq 7, 3) := by decide +kernel
theorem dX1_broken_22 : decode cX1_broken 22 = .ok (.iconst 2, 1) := by decide +kernel
theorem dX1_broken_23 : decode cX1_broken 23 = .ok (.goto 4, 3) := by decide +kernel
theorem dX1_broken_26 : decode cX1_broken 26 = .ok (.iconst 0, 1) := by decide +kernel
theorem dX1_broken_27 : decode cX1_broken 27 = .ok (.ior, 1) := by decide +kernel
theorem dX1_broken_28 : decode cX1_broken 28 = .ok (.istore_n 2, 1) := by decide +kernel
theorem dX1_broken_29 : decode cX1_broken 29 = .ok (.iload_n 2, 1) := by decide +kernel
theorem dX1_broken_30 : decode cX1_broken 30 = .ok (.aload_n 0, 1) := by decide +kernel
theorem dX1_broken_31 : decode cX1_broken 31 = .ok (.getfield 32, 3) := by decide +kernel
theorem dX1_broken_34 : decode cX1_broken 34 = .ok (.ifCond .eq 7, 3) := by decide +kernel
theorem dX1_broken_37 : decode cX1_broken 37 = .ok (.iconst 4, 1) := by decide +kernel
theorem dX1_broken_38 : decode cX1_broken 38 = .ok (.goto 4, 3) := by decide +kernel
theorem dX1_broken_41 : decode cX1_broken 41 = .ok (.iconst 0, 1) := by decide +kernel
theorem dX1_broken_42 : decode cX1_broken 42 = .ok (.ior, 1) := by decide +kernel
theorem dX1_broken_43 : decode cX1_broken 43 = .ok (.istore_n 2, 1) := by decide +kernel
theorem dX1_broken_44 : decode cX1_broken 44 = .ok (.iload_n 2, 1) := by decide +kernel
theorem dX1_broken_45 : decode cX1_broken 45 = .ok (.aload_n 0, 1) := by decide +kernel
theorem dX1_broken_46 : decode cX1_broken 46 = .ok (.getfield 35, 3) := by decide +kernel
theorem dX1_broken_49 : decode cX1_broken 49 = .ok (.iconst (-1), 1) := by decide +kernel
theorem dX1_broken_50 : decode cX1_broken 50 = .ok (.if_icmp .eq 11, 3) := by decide +kernel
theorem dX1_broken_53 : decode cX1_broken 53 = .ok (.aload_n 0, 1) := by decide +kernel
theorem dX1_broken_54 : decode cX1_broken 54 = .ok (.getfield 35, 3) := by decide +kernel
theorem dX1_broken_57 : decode cX1_broken 57 = .ok (.iload_n 1, 1) := by decide +kernel
theorem dX1_broken_58 : decode cX1_broken 58 = .ok (.if_icmp .le 8, 3) := by decide +kernel
theorem dX1_broken_61 : decode cX1_broken 61 = .ok (.bipush 8, 2) := by decide +kernel
theorem dX1_broken_63 : decode cX1_broken 63 = .ok (.goto 4, 3) := by decide +kernel
theorem dX1_broken_66 : decode cX1_broken 66 = .ok (.iconst 0, 1) := by decide +kernel
theorem dX1_broken_67 : decode cX1_broken 67 = .ok (.ior, 1) := by decide +kernel
theorem dX1_broken_68 : decode cX1_broken 68 = .ok (.istore_n 2, 1) := by decide +kernel
theorem dX1_broken_69 : decode cX1_broken 69 = .ok (.iload_n 2, 1) := by decide +kernel
theorem dX1_broken_70 : decode cX1_broken 70 = .ok (.ireturn, 1) := by decide +kernel
theorem dX2_init_0 : decode cX2_init 0 = .ok (.aload_n 0, 1) := by decide +kernel
theorem dX2_init_1 : decode cX2_init 1 = .ok (.invokespecial 3, 3) := by decide +kernel
theorem dX2_init_4 : decode cX2_init 4 = .ok (.aload_n 0, 1) := by decide +kernel
theorem dX2_init_5 : decode cX2_init 5 = .ok (.bipush 120, 2) := by decide +kernel
theorem dX2_init_7 : decode cX2_init 7 = .ok (.newarray .int, 2) := by decide +kernel
theorem dX2_init_9 : decode cX2_init 9 = .ok (.putfield 9, 3) := by decide +kernel
theorem dX2_init_12 : decode cX2_init 12 = .ok (.aload_n 0, 1) := by decide +kernel
theorem dX2_init_13 : decode cX2_init 13 = .ok (.bipush 120, 2) := by decide +kernel
theorem dX2_init_15 : decode cX2_init 15 = .ok (.newarray .int, 2) := by decide +kernel
theorem dX2_init_17 : decode cX2_init 17 = .ok (.putfield 15, 3) := by decide +kernel
theorem dX2_init_20 : decode cX2_init 20 = .ok (.aload_n 0, 1) := by decide +kernel
theorem dX2_init_21 : decode cX2_init 21 = .ok (.bipush 120, 2) := by decide +kernel
theorem dX2_init_23 : decode cX2_init 23 = .ok (.newarray .int, 2) := by decide +kernel
theorem dX2_init_25 : decode cX2_init 25 = .ok (.putfield 18, 3) := by decide +kernel
theorem dX2_init_28 : decode cX2_init 28 = .ok (.aload_n 0, 1) := by decide +kernel
theorem dX2_init_29 : decode cX2_init 29 = .ok (.bipush 120, 2) := by decide +kernel
theorem dX2_init_31 : decode cX2_init 31 = .ok (.newarray .int, 2) := by decide +kernel
theorem dX2_init_33 : decode cX2_init 33 = .ok (.putfield 21, 3) := by decide +kernel
theorem dX2_init_36 : decode cX2_init 36 = .ok (.aload_n 0, 1) := by decide +kernel
theorem dX2_init_37 : decode cX2_init 37 = .ok (.bipush 120, 2) := by decide +kernel
theorem dX2_init_39 : decode cX2_init 39 = .ok (.newarray .int, 2) := by decide +kernel
theorem dX2_init_41 : decode cX2_init 41 = .ok (.putfield 24, 3) := by decide +kernel
theorem dX2_init_44 : decode cX2_init 44 = .ok (.aload_n 0, 1) := by decide +kernel
theorem dX2_init_45 : decode cX2_init 45 = .ok (.sipush 226, 3) := by decide +kernel
theorem dX2_init_48 : decode cX2_init 48 = .ok (.newarray .int, 2) := by decide +kernel
theorem dX2_init_50 : decode cX2_init 50 = .ok (.putfield 27, 3) := by decide +kernel
theorem dX2_init_53 : decode cX2_init 53 = .ok (.aload_n 0, 1) := by decide +kernel
theorem dX2_init_54 : decode cX2_init 54 = .ok (.sipush 226, 3) := by decide +kernel
theorem dX2_init_57 : decode cX2_init 57 = .ok (.newarray .int, 2) := by decide +kernel
theorem dX2_init_59 : decode cX2_init 59 = .ok (.putfield 30, 3) := by decide +kernel
theorem dX2_init_62 : decode cX2_init 62 = .ok (.aload_n 0, 1) := by decide +kernel
theorem dX2_init_63 : decode cX2_init 63 = .ok (.sipush 226, 3) := by decide +kernel
theorem dX2_init_66 : decode cX2_init 66 = .ok (.newarray .int, 2) := by decide +kernel
theorem dX2_init_68 : decode cX2_init 68 = .ok (.putfield 33, 3) := by decide +kernel
theorem dX2_init_71 : decode cX2_init 71 = .ok (.aload_n 0, 1) := by decide +kernel
theorem dX2_init_72 : decode cX2_init 72 = .ok (.sipush 240, 3) := by decide +kernel
theorem dX2_init_75 : decode cX2_init 75 = .ok (.newarray .int, 2) := by decide +kernel
theorem dX2_init_77 : decode cX2_init 77 = .ok (.putfield 36, 3) := by decide +kernel
theorem dX2_init_80 : decode cX2_init 80 = .ok (.return_, 1) := by decide +kernel
theorem dX2_begin_0 : decode cX2_begin 0 = .ok (.aload_n 0, 1) := by decide +kernel
theorem dX2_begin_1 : decode cX2_begin 1 = .ok (.iconst 0, 1) := by decide +kernel
theorem dX2_begin_2 : decode cX2_begin 2 = .ok (.putfield 39, 3) := by decide +kernel
theorem dX2_begin_5 : decode cX2_begin 5 = .ok (.aload_n 0, 1) := by decide +kernel
theorem dX2_begin_6 : decode cX2_begin 6 = .ok (.iconst 0, 1) := by decide +kernel
theorem dX2_begin_7 : decode cX2_begin 7 = .ok (.putfield 43, 3) := by decide +kernel
theorem dX2_begin_10 : decode cX2_begin 10 = .ok (.iconst 0, 1) := by decide +kernel
theorem dX2_begin_11 : decode cX2_begin 11 = .ok (.istore_n 1, 1) := by decide +kernel
theorem dX2_begin_12 : decode cX2_begin 12 = .ok (.iload_n 1, 1) := by decide +kernel
theorem dX2_begin_13 : decode cX2_begin 13 = .ok (.sipush 226, 3) := by decide +kernel
theorem dX2_begin_16 : decode cX2_begin 16 = .ok (.if_icmp .ge 16, 3) := by decide +kernel
theorem dX2_begin_19 : decode cX2_begin 19 = .ok (.aload_n 0, 1) := by decide +kernel
theorem dX2_begin_20 : decode cX2_begin 20 = .ok (.getfield 33, 3) := by decide +kernel
theorem dX2_begin_23 : decode cX2_begin 23 = .ok (.iload_n 1, 1) := by decide +kernel
theorem dX2_begin_24 : decode cX2_begin 24 = .ok (.iconst 0, 1) := by decide +kernel
theorem dX2_begin_25 : decode cX2_begin 25 = .ok (.iastore, 1) := by decide +kernel
theorem dX2_begin_26 : decode cX2_begin 26 = .ok (.iinc 1 1, 3) := by decide +kernel
theorem dX2_begin_29 : decode cX2_begin 29 = .ok (.goto (-17), 3) := by decide +kernel
theorem dX2_begin_32 : decode cX2_begin 32 = .ok (.return_, 1) := by decide +kernel
theorem dX2_send_0 : decode cX2_send 0 = .ok (.aload_n 0, 1) := by decide +kernel
theorem dX2_send_1 : decode cX2_send 1 = .ok (.getfield 39, 3) := by decide +kernel
theorem dX2_send_4 : decode cX2_send 4 = .ok (.istore 5, 2) := by decide +kernel
theorem dX2_send_6 : decode cX2_send 6 = .ok (.iload 5, 2) := by decide +kernel
theorem dX2_send_8 : decode cX2_send 8 = .ok (.ifCond .lt 10, 3) := by decide +kernel
theorem dX2_send_11 : decode cX2_send 11 = .ok (.iload 5, 2) := by decide +kernel
theorem dX2_send_13 : decode cX2_send 13 = .ok (.bipush 120, 2) := by decide +kernel
theorem dX2_send_15 : decode cX2_send 15 = .ok (.if_icmp .lt 4, 3) := by decide +kernel
theorem dX2_send_18 : decode cX2_send 18 = .ok (.return_, 1) := by decide +kernel
theorem dX2_send_19 : decode cX2_send 19 = .ok (.aload_n 0, 1) := by decide +kernel
theorem dX2_send_20 : decode cX2_send 20 = .ok (.dup, 1) := by decide +kernel
theorem dX2_send_21 : decode cX2_send 21 = .ok (.getfield 39, 3) := by decide +kernel
theorem dX2_send_24 : decode cX2_send 24 = .ok (.iconst 1, 1) := by decide +kernel
theorem dX2_send_25 : decode cX2_send 25 = .ok (.iadd, 1) := by decide +kernel
theorem dX2_send_26 : decode cX2_send 26 = .ok (.putfield 39, 3) := by decide +kernel
theorem dX2_send_29 : decode cX2_send 29 = .ok (.aload_n 0, 1) := by decide +kernel
theorem dX2_send_30 : decode cX2_send 30 = .ok (.getfield 9, 3) := by decide +kernel
theorem dX2_send_33 : decode cX2_send 33 = .ok (.iload 5, 2) := by decide +kernel
theorem dX2_send_35 : decode cX2_send 35 = .ok (.iload_n 2, 1) := by decide +kernel
theorem dX2_send_36 : decode cX2_send 36 = .ok (.iastore, 1) := by decide +kernel
theorem dX2_send_37 : decode cX2_send 37 = .ok (.aload_n 0, 1) := by decide +kernel
theorem dX2_send_38 : decode cX2_send 38 = .ok (.getfield 15, 3) := by decide +kernel
theorem dX2_send_41 : decode cX2_send 41 = .ok (.iload 5, 2) := by decide +kernel
theorem dX2_send_43 : decode cX2_send 43 = .ok (.iload_n 3, 1) := by decide +kernel
theorem dX2_send_44 : decode cX2_send 44 = .ok (.iastore, 1) := by decide +kernel
theorem dX2_send_45 : decode cX2_send 45 = .ok (.aload_n 0, 1) := by decide +kernel
theorem dX2_send_46 : decode cX2_send 46 = .ok (.getfield 18, 3) := by decide +kernel
theorem dX2_send_49 : decode cX2_send 49 = .ok (.iload 5, 2) := by decide +kernel
theorem dX2_send_51 : decode cX2_send 51 = .ok (.iload 4, 2) := by decide +kernel
theorem dX2_send_53 : decode cX2_send 53 = .ok (.iastore, 1) := by decide +kernel
theorem dX2_send_54 : decode cX2_send 54 = .ok (.aload_n 0, 1) := by decide +kernel
theorem dX2_send_55 : decode cX2_send 55 = .ok (.getfield 21, 3) := by decide +kernel
theorem dX2_send_58 : decode cX2_send 58 = .ok (.iload 5, 2) := by decide +kernel
theorem dX2_send_60 : decode cX2_send 60 = .ok (.iconst (-1), 1) := by decide +kernel
theorem dX2_send_61 : decode cX2_send 61 = .ok (.iastore, 1) := by decide +kernel
theorem dX2_send_62 : decode cX2_send 62 = .ok (.aload_n 0, 1) := by decide +kernel
theorem dX2_send_63 : decode cX2_send 63 = .ok (.getfield 24, 3) := by decide +kernel
theorem dX2_send_66 : decode cX2_send 66 = .ok (.iload 5, 2) := by decide +kernel
theorem dX2_send_68 : decode cX2_send 68 = .ok (.iconst (-1), 1) := by decide +kernel
theorem dX2_send_69 : decode cX2_send 69 = .ok (.iastore, 1) := by decide +kernel
theorem dX2_send_70 : decode cX2_send 70 = .ok (.aload_n 1, 1) := by decide +kernel
theorem dX2_send_71 : decode cX2_send 71 = .ok (.iconst 0, 1) := by decide +kernel
theorem dX2_send_72 : decode cX2_send 72 = .ok (.iload 5, 2) := by decide +kernel
theorem dX2_send_74 : decode cX2_send 74 = .ok (.invokevirtual 46, 3) := by decide +kernel
theorem dX2_send_77 : decode cX2_send 77 = .ok (.iconst (-1), 1) := by decide +kernel
theorem dX2_send_78 : decode cX2_send 78 = .ok (.if_icmp .eq 4, 3) := by decide +kernel
theorem dX2_send_81 : decode cX2_send 81 = .ok (.return_, 1) := by decide +kernel
theorem dX2_send_82 : decode cX2_send 82 = .ok (.iload_n 2, 1) := by decide +kernel
theorem dX2_send_83 : decode cX2_send 83 = .ok (.aload_n 1, 1) := by decide +kernel
theorem dX2_send_84 : decode cX2_send 84 = .ok (.iconst 3, 1) := by decide +kernel
theorem dX2_send_85 : decode cX2_send 85 = .ok (.invokevirtual 52, 3) := by decide +kernel
theorem dX2_send_88 : decode cX2_send 88 = .ok (.iadd, 1) := by decide +kernel
theorem dX2_send_89 : decode cX2_send 89 = .ok (.istore 6, 2) := by decide +kernel
theorem dX2_send_91 : decode cX2_send 91 = .ok (.aload_n 1, 1) := by decide +kernel
theorem dX2_send_92 : decode cX2_send 92 = .ok (.iconst 2, 1) := by decide +kernel
theorem dX2_send_93 : decode cX2_send 93 = .ok (.iload 5, 2) := by decide +kernel
theorem dX2_send_95 : decode cX2_send 95 = .ok (.invokevirtual 46, 3) := by decide +kernel
theorem dX2_send_98 : decode cX2_send 98 = .ok (.istore 7, 2) := by decide +kernel
theorem dX2_send_100 : decode cX2_send 100 = .ok (.iload 7, 2) := by decide +kernel
theorem dX2_send_102 : decode cX2_send 102 = .ok (.iconst (-1), 1) := by decide +kernel
theorem dX2_send_103 : decode cX2_send 103 = .ok (.if_icmp .eq 15, 3) := by decide +kernel
theorem dX2_send_106 : decode cX2_send 106 = .ok (.iload 6, 2) := by decide +kernel
theorem dX2_send_108 : decode cX2_send 108 = .ok (.aload_n 1, 1) := by decide +kernel
theorem dX2_send_109 : decode cX2_send 109 = .ok (.iload 7, 2) := by decide +kernel
theorem dX2_send_111 : decode cX2_send 111 = .ok (.iconst 2, 1) := by decide +kernel
theorem dX2_send_112 : decode cX2_send 112 = .ok (.invokevirtual 56, 3) := by decide +kernel
theorem dX2_send_115 : decode cX2_send 115 = .ok (.iadd, 1) := by decide +kernel
theorem dX2_send_116 : decode cX2_send 116 = .ok (.istore 6, 2) := by decide +kernel
theorem dX2_send_118 : decode cX2_send 118 = .ok (.aload_n 0, 1) := by decide +kernel
theorem dX2_send_119 : decode cX2_send 119 = .ok (.getfield 21, 3) := by decide +kernel
theorem dX2_send_122 : decode cX2_send 122 = .ok (.iload 5, 2) := by decide +kernel
theorem dX2_send_124 : decode cX2_send 124 = .ok (.iload 6, 2) := by decide +kernel
theorem dX2_send_126 : decode cX2_send 126 = .ok (.iastore, 1) := by decide +kernel
theorem dX2_send_127 : decode cX2_send 127 = .ok (.aload_n 0, 1) := by decide +kernel
theorem dX2_send_128 : decode cX2_send 128 = .ok (.iload 6, 2) := by decide +kernel
theorem dX2_send_130 : decode cX2_send 130 = .ok (.iconst 2, 1) := by decide +kernel
theorem dX2_send_131 : decode cX2_send 131 = .ok (.iload 5, 2) := by decide +kernel
theorem dX2_send_133 : decode cX2_send 133 = .ok (.imul, 1) := by decide +kernel
theorem dX2_send_134 : decode cX2_send 134 = .ok (.invokevirtual 59, 3) := by decide +kernel
theorem dX2_send_137 : decode cX2_send 137 = .ok (.aload_n 1, 1) := by decide +kernel
theorem dX2_send_138 : decode cX2_send 138 = .ok (.iconst 1, 1) := by decide +kernel
theorem dX2_send_139 : decode cX2_send 139 = .ok (.iload 5, 2) := by decide +kernel
theorem dX2_send_141 : decode cX2_send 141 = .ok (.invokevirtual 46, 3) := by decide +kernel
theorem dX2_send_144 : decode cX2_send 144 = .ok (.iconst (-1), 1) := by decide +kernel
theorem dX2_send_145 : decode cX2_send 145 = .ok (.if_icmp .eq 28, 3) := by decide +kernel
theorem dX2_send_148 : decode cX2_send 148 = .ok (.aload_n 0, 1) := by decide +kernel
theorem dX2_send_149 : decode cX2_send 149 = .ok (.getfield 24, 3) := by decide +kernel
theorem dX2_send_152 : decode cX2_send 152 = .ok (.iload 5, 2) := by decide +kernel
theorem dX2_send_154 : decode cX2_send 154 = .ok (.iload 6, 2) := by decide +kernel
theorem dX2_send_156 : decode cX2_send 156 = .ok (.iconst 1, 1) := by decide +kernel
theorem dX2_send_157 : decode cX2_send 157 = .ok (.iadd, 1) := by decide +kernel
theorem dX2_send_158 : decode cX2_send 158 = .ok (.iastore, 1) := by decide +kernel
theorem dX2_send_159 : decode cX2_send 159 = .ok (.aload_n 0, 1) := by decide +kernel
theorem dX2_send_160 : decode cX2_send 160 = .ok (.iload 6, 2) := by decide +kernel
theorem dX2_send_162 : decode cX2_send 162 = .ok (.iconst 1, 1) := by decide +kernel
theorem dX2_send_163 : decode cX2_send 163 = .ok (.iadd, 1) := by decide +kernel
theorem dX2_send_164 : decode cX2_send 164 = .ok (.iconst 2, 1) := by decide +kernel
theorem dX2_send_165 : decode cX2_send 165 = .ok (.iload 5, 2) := by decide +kernel
theorem dX2_send_167 : decode cX2_send 167 = .ok (.imul, 1) := by decide +kernel
theorem dX2_send_168 : decode cX2_send 168 = .ok (.iconst 1, 1) := by decide +kernel
theorem dX2_send_169 : decode cX2_send 169 = .ok (.iadd, 1) := by decide +kernel
theorem dX2_send_170 : decode cX2_send 170 = .ok (.invokevirtual 59, 3) := by decide +kernel
theorem dX2_send_173 : decode cX2_send 173 = .ok (.return_, 1) := by decide +kernel
theorem dX2_queue_0 : decode cX2_queue 0 = .ok (.iload_n 1, 1) := by decide +kernel
theorem dX2_queue_1 : decode cX2_queue 1 = .ok (.ifCond .lt 23, 3) := by decide +kernel
theorem dX2_queue_4 : decode cX2_queue 4 = .ok (.iload_n 1, 1) := by decide +kernel
theorem dX2_queue_5 : decode cX2_queue 5 = .ok (.sipush 226, 3) := by decide +kernel
theorem dX2_queue_8 : decode cX2_queue 8 = .ok (.if_icmp .ge 16, 3) := by decide +kernel
theorem dX2_queue_11 : decode cX2_queue 11 = .ok (.iload_n 2, 1) := by decide +kernel
theorem dX2_queue_12 : decode cX2_queue 12 = .ok (.ifCond .lt 12, 3) := by decide +kernel
theorem dX2_queue_15 : decode cX2_queue 15 = .ok (.iload_n 2, 1) := by decide +kernel
theorem dX2_queue_16 : decode cX2_queue 16 = .ok (.aload_n 0, 1) := by decide +kernel
theorem dX2_queue_17 : decode cX2_queue 17 = .ok (.getfield 36, 3) := by decide +kernel
theorem dX2_queue_20 : decode cX2_queue 20 = .ok (.arraylength, 1) := by decide +kernel
theorem dX2_queue_21 : decode cX2_queue 21 = .ok (.if_icmp .lt 4, 3) := by decide +kernel
theorem dX2_queue_24 : decode cX2_queue 24 = .ok (.return_, 1) := by decide +kernel
theorem dX2_queue_25 : decode cX2_queue 25 = .ok (.aload_n 0, 1) := by decide +kernel
theorem dX2_queue_26 : decode cX2_queue 26 = .ok (.getfield 30, 3) := by decide +kernel
theorem dX2_queue_29 : decode cX2_queue 29 = .ok (.iload_n 1, 1) := by decide +kernel
theorem dX2_queue_30 : decode cX2_queue 30 = .ok (.iaload, 1) := by decide +kernel
theorem dX2_queue_31 : decode cX2_queue 31 = .ok (.istore_n 3, 1) := by decide +kernel
theorem dX2_queue_32 : decode cX2_queue 32 = .ok (.aload_n 0, 1) := by decide +kernel
theorem dX2_queue_33 : decode cX2_queue 33 = .ok (.getfield 33, 3) := by decide +kernel
theorem dX2_queue_36 : decode cX2_queue 36 = .ok (.iload_n 1, 1) := by decide +kernel
theorem dX2_queue_37 : decode cX2_queue 37 = .ok (.iaload, 1) := by decide +kernel
theorem dX2_queue_38 : decode cX2_queue 38 = .ok (.ifCond .le 26, 3) := by decide +kernel
theorem dX2_queue_41 : decode cX2_queue 41 = .ok (.iload_n 3, 1) := by decide +kernel
theorem dX2_queue_42 : decode cX2_queue 42 = .ok (.ifCond .lt 22, 3) := by decide +kernel
theorem dX2_queue_45 : decode cX2_queue 45 = .ok (.iload_n 3, 1) := by decide +kernel
theorem dX2_queue_46 : decode cX2_queue 46 = .ok (.aload_n 0, 1) := by decide +kernel
theorem dX2_queue_47 : decode cX2_queue 47 = .ok (.getfield 36, 3) := by decide +kernel
theorem dX2_queue_50 : decode cX2_queue 50 = .ok (.arraylength, 1) := by decide +kernel
theorem dX2_queue_51 : decode cX2_queue 51 = .ok (.if_icmp .ge 13, 3) := by decide +kernel
theorem dX2_queue_54 : decode cX2_queue 54 = .ok (.aload_n 0, 1) := by decide +kernel
theorem dX2_queue_55 : decode cX2_queue 55 = .ok (.getfield 36, 3) := by decide +kernel
theorem dX2_queue_58 : decode cX2_queue 58 = .ok (.iload_n 3, 1) := by decide +kernel
theorem dX2_queue_59 : decode cX2_queue 59 = .ok (.iload_n 2, 1) := by decide +kernel
theorem dX2_queue_60 : decode cX2_queue 60 = .ok (.iastore, 1) := by decide +kernel
theorem dX2_queue_61 : decode cX2_queue 61 = .ok (.goto 10, 3) := by decide +kernel
theorem dX2_queue_64 : decode cX2_queue 64 = .ok (.aload_n 0, 1) := by decide +kernel
theorem dX2_queue_65 : decode cX2_queue 65 = .ok (.getfield 27, 3) := by decide +kernel
theorem dX2_queue_68 : decode cX2_queue 68 = .ok (.iload_n 1, 1) := by decide +kernel
theorem dX2_queue_69 : decode cX2_queue 69 = .ok (.iload_n 2, 1) := by decide +kernel
theorem dX2_queue_70 : decode cX2_queue 70 = .ok (.iastore, 1) := by decide +kernel
theorem dX2_queue_71 : decode cX2_queue 71 = .ok (.aload_n 0, 1) := by decide +kernel
theorem dX2_queue_72 : decode cX2_queue 72 = .ok (.getfield 30, 3) := by decide +kernel
theorem dX2_queue_75 : decode cX2_queue 75 = .ok (.iload_n 1, 1) := by decide +kernel
theorem dX2_queue_76 : decode cX2_queue 76 = .ok (.iload_n 2, 1) := by decide +kernel
theorem dX2_queue_77 : decode cX2_queue 77 = .ok (.iastore, 1) := by decide +kernel
theorem dX2_queue_78 : decode cX2_queue 78 = .ok (.aload_n 0, 1) := by decide +kernel
theorem dX2_queue_79 : decode cX2_queue 79 = .ok (.getfield 33, 3) := by decide +kernel
theorem dX2_queue_82 : decode cX2_queue 82 = .ok (.iload_n 1, 1) := by decide +kernel
theorem dX2_queue_83 : decode cX2_queue 83 = .ok (.dup2, 1) := by decide +kernel
theorem dX2_queue_84 : decode cX2_queue 84 = .ok (.iaload, 1) := by decide +kernel
theorem dX2_queue_85 : decode cX2_queue 85 = .ok (.iconst 1, 1) := by decide +kernel
theorem dX2_queue_86 : decode cX2_queue 86 = .ok (.iadd, 1) := by decide +kernel
theorem dX2_queue_87 : decode cX2_queue 87 = .ok (.iastore, 1) := by decide +kernel
theorem dX2_queue_88 : decode cX2_queue 88 = .ok (.aload_n 0, 1) := by decide +kernel
theorem dX2_queue_89 : decode cX2_queue 89 = .ok (.dup, 1) := by decide +kernel
theorem dX2_queue_90 : decode cX2_queue 90 = .ok (.getfield 43, 3) := by decide +kernel
theorem dX2_queue_93 : decode cX2_queue 93 = .ok (.iconst 1, 1) := by decide +kernel
theorem dX2_queue_94 : decode cX2_queue 94 = .ok (.iadd, 1) := by decide +kernel
theorem dX2_queue_95 : decode cX2_queue 95 = .ok (.putfield 43, 3) := by decide +kernel
theorem dX2_queue_98 : decode cX2_queue 98 = .ok (.return_, 1) := by decide +kernel
theorem dX2_arrivalsIn_0 : decode cX2_arrivalsIn 0 = .ok (.iload_n 1, 1) := by decide +kernel
theorem dX2_arrivalsIn_1 : decode cX2_arrivalsIn 1 = .ok (.ifCond .lt 19, 3) := by decide +kernel
theorem dX2_arrivalsIn_4 : decode cX2_arrivalsIn 4 = .ok (.iload_n 1, 1) := by decide +kernel
theorem dX2_arrivalsIn_5 : decode cX2_arrivalsIn 5 = .ok (.sipush 226, 3) := by decide +kernel
theorem dX2_arrivalsIn_8 : decode cX2_arrivalsIn 8 = .ok (.if_icmp .ge 12, 3) := by decide +kernel
theorem dX2_arrivalsIn_11 : decode cX2_arrivalsIn 11 = .ok (.aload_n 0, 1) := by decide +kernel
theorem dX2_arrivalsIn_12 : decode cX2_arrivalsIn 12 = .ok (.getfield 33, 3) := by decide +kernel
theorem dX2_arrivalsIn_15 : decode cX2_arrivalsIn 15 = .ok (.iload_n 1, 1) := by decide +kernel
theorem dX2_arrivalsIn_16 : decode cX2_arrivalsIn 16 = .ok (.iaload, 1) := by decide +kernel
theorem dX2_arrivalsIn_17 : decode cX2_arrivalsIn 17 = .ok (.goto 4, 3) := by decide +kernel
theorem dX2_arrivalsIn_20 : decode cX2_arrivalsIn 20 = .ok (.iconst 0, 1) := by decide +kernel
theorem dX2_arrivalsIn_21 : decode cX2_arrivalsIn 21 = .ok (.ireturn, 1) := by decide +kernel
theorem dX2_firstArrivalIn_0 : decode cX2_firstArrivalIn 0 = .ok (.iload_n 1, 1) := by decide +kernel
theorem dX2_firstArrivalIn_1 : decode cX2_firstArrivalIn 1 = .ok (.ifCond .lt 19, 3) := by decide +kernel
theorem dX2_firstArrivalIn_4 : decode cX2_firstArrivalIn 4 = .ok (.iload_n 1, 1) := by decide +kernel
theorem dX2_firstArrivalIn_5 : decode cX2_firstArrivalIn 5 = .ok (.sipush 226, 3) := by decide +kernel
theorem dX2_firstArrivalIn_8 : decode cX2_firstArrivalIn 8 = .ok (.if_icmp .ge 12, 3) := by decide +kernel
theorem dX2_firstArrivalIn_11 : decode cX2_firstArrivalIn 11 = .ok (.aload_n 0, 1) := by decide +kernel
theorem dX2_firstArrivalIn_12 : decode cX2_firstArrivalIn 12 = .ok (.getfield 27, 3) := by decide +kernel
theorem dX2_firstArrivalIn_15 : decode cX2_firstArrivalIn 15 = .ok (.iload_n 1, 1) := by decide +kernel
theorem dX2_firstArrivalIn_16 : decode cX2_firstArrivalIn 16 = .ok (.iaload, 1) := by decide +kernel
theorem dX2_firstArrivalIn_17 : decode cX2_firstArrivalIn 17 = .ok (.goto 4, 3) := by decide +kernel
theorem dX2_firstArrivalIn_20 : decode cX2_firstArrivalIn 20 = .ok (.iconst (-1), 1) := by decide +kernel
theorem dX2_firstArrivalIn_21 : decode cX2_firstArrivalIn 21 = .ok (.ireturn, 1) := by decide +kernel
theorem dX2_arrivalBehind_0 : decode cX2_arrivalBehind 0 = .ok (.iload_n 1, 1) := by decide +kernel
theorem dX2_arrivalBehind_1 : decode cX2_arrivalBehind 1 = .ok (.ifCond .lt 21, 3) := by decide +kernel
theorem dX2_arrivalBehind_4 : decode cX2_arrivalBehind 4 = .ok (.iload_n 1, 1) := by decide +kernel
theorem dX2_arrivalBehind_5 : decode cX2_arrivalBehind 5 = .ok (.aload_n 0, 1) := by decide +kernel
theorem dX2_arrivalBehind_6 : decode cX2_arrivalBehind 6 = .ok (.getfield 36, 3) := by decide +kernel
theorem dX2_arrivalBehind_9 : decode cX2_arrivalBehind 9 = .ok (.arraylength, 1) := by decide +kernel
theorem dX2_arrivalBehind_10 : decode cX2_arrivalBehind 10 = .ok (.if_icmp .ge 12, 3) := by decide +kernel
theorem dX2_arrivalBehind_13 : decode cX2_arrivalBehind 13 = .ok (.aload_n 0, 1) := by decide +kernel
theorem dX2_arrivalBehind_14 : decode cX2_arrivalBehind 14 = .ok (.getfield 36, 3) := by decide +kernel
theorem dX2_arrivalBehind_17 : decode cX2_arrivalBehind 17 = .ok (.iload_n 1, 1) := by decide +kernel
theorem dX2_arrivalBehind_18 : decode cX2_arrivalBehind 18 = .ok (.iaload, 1) := by decide +kernel
theorem dX2_arrivalBehind_19 : decode cX2_arrivalBehind 19 = .ok (.goto 4, 3) := by decide +kernel
theorem dX2_arrivalBehind_22 : decode cX2_arrivalBehind 22 = .ok (.iconst (-1), 1) := by decide +kernel
theorem dX2_arrivalBehind_23 : decode cX2_arrivalBehind 23 = .ok (.ireturn, 1) := by decide +kernel
theorem dX2_arrive_0 : decode cX2_arrive 0 = .ok (.aload_n 0, 1) := by decide +kernel
theorem dX2_arrive_1 : decode cX2_arrive 1 = .ok (.dup, 1) := by decide +kernel
theorem dX2_arrive_2 : decode cX2_arrive 2 = .ok (.getfield 43, 3) := by decide +kernel
theorem dX2_arrive_5 : decode cX2_arrive 5 = .ok (.iconst 1, 1) := by decide +kernel
theorem dX2_arrive_6 : decode cX2_arrive 6 = .ok (.isub, 1) := by decide +kernel
theorem dX2_arrive_7 : decode cX2_arrive 7 = .ok (.putfield 43, 3) := by decide +kernel
theorem dX2_arrive_10 : decode cX2_arrive 10 = .ok (.return_, 1) := by decide +kernel
theorem dX2_isEmpty_0 : decode cX2_isEmpty 0 = .ok (.aload_n 0, 1) := by decide +kernel
theorem dX2_isEmpty_1 : decode cX2_isEmpty 1 = .ok (.getfield 43, 3) := by decide +kernel
theorem dX2_isEmpty_4 : decode cX2_isEmpty 4 = .ok (.ifCond .gt 7, 3) := by decide +kernel
theorem dX2_isEmpty_7 : decode cX2_isEmpty 7 = .ok (.iconst 1, 1) := by decide +kernel
theorem dX2_isEmpty_8 : decode cX2_isEmpty 8 = .ok (.goto 4, 3) := by decide +kernel
theorem dX2_isEmpty_11 : decode cX2_isEmpty 11 = .ok (.iconst 0, 1) := by decide +kernel
theorem dX2_isEmpty_12 : decode cX2_isEmpty 12 = .ok (.ireturn, 1) := by decide +kernel
theorem dX2_sentCount_0 : decode cX2_sentCount 0 = .ok (.aload_n 0, 1) := by decide +kernel
theorem dX2_sentCount_1 : decode cX2_sentCount 1 = .ok (.getfield 39, 3) := by decide +kernel
theorem dX2_sentCount_4 : decode cX2_sentCount 4 = .ok (.ireturn, 1) := by decide +kernel
theorem dX2_sentPart_0 : decode cX2_sentPart 0 = .ok (.iload_n 1, 1) := by decide +kernel
theorem dX2_sentPart_1 : decode cX2_sentPart 1 = .ok (.ifCond .lt 17, 3) := by decide +kernel
theorem dX2_sentPart_4 : decode cX2_sentPart 4 = .ok (.iload_n 1, 1) := by decide +kernel
theorem dX2_sentPart_5 : decode cX2_sentPart 5 = .ok (.aload_n 0, 1) := by decide +kernel
theorem dX2_sentPart_6 : decode cX2_sentPart 6 = .ok (.getfield 39, 3) := by decide +kernel
theorem dX2_sentPart_9 : decode cX2_sentPart 9 = .ok (.if_icmp .ge 9, 3) := by decide +kernel
theorem dX2_sentPart_12 : decode cX2_sentPart 12 = .ok (.iload_n 1, 1) := by decide +kernel
theorem dX2_sentPart_13 : decode cX2_sentPart 13 = .ok (.bipush 120, 2) := by decide +kernel
theorem dX2_sentPart_15 : decode cX2_sentPart 15 = .ok (.if_icmp .lt 5, 3) := by decide +kernel
theorem dX2_sentPart_18 : decode cX2_sentPart 18 = .ok (.iconst (-1), 1) := by decide +kernel
theorem dX2_sentPart_19 : decode cX2_sentPart 19 = .ok (.ireturn, 1) := by decide +kernel
theorem dX2_sentPart_20 : decode cX2_sentPart 20 = .ok (.iload_n 2, 1) := by decide +kernel
theorem dX2_sentPart_21 : decode cX2_sentPart 21 = .ok (.tableswitch 59 0 3 #[31, 38, 45, 52], 31) := by decide +kernel
theorem dX2_sentPart_52 : decode cX2_sentPart 52 = .ok (.aload_n 0, 1) := by decide +kernel
theorem dX2_sentPart_53 : decode cX2_sentPart 53 = .ok (.getfield 9, 3) := by decide +kernel
theorem dX2_sentPart_56 : decode cX2_sentPart 56 = .ok (.iload_n 1, 1) := by decide +kernel
theorem dX2_sentPart_57 : decode cX2_sentPart 57 = .ok (.iaload, 1) := by decide +kernel
theorem dX2_sentPart_58 : decode cX2_sentPart 58 = .ok (.ireturn, 1) := by decide +kernel
theorem dX2_sentPart_59 : decode cX2_sentPart 59 = .ok (.aload_n 0, 1) := by decide +kernel
theorem dX2_sentPart_60 : decode cX2_sentPart 60 = .ok (.getfield 15, 3) := by decide +kernel
theorem dX2_sentPart_63 : decode cX2_sentPart 63 = .ok (.iload_n 1, 1) := by decide +kernel
theorem dX2_sentPart_64 : decode cX2_sentPart 64 = .ok (.iaload, 1) := by decide +kernel
theorem dX2_sentPart_65 : decode cX2_sentPart 65 = .ok (.ireturn, 1) := by decide +kernel
theorem dX2_sentPart_66 : decode cX2_sentPart 66 = .ok (.aload_n 0, 1) := by decide +kernel
theorem dX2_sentPart_67 : decode cX2_sentPart 67 = .ok (.getfield 18, 3) := by decide +kernel
theorem dX2_sentPart_70 : decode cX2_sentPart 70 = .ok (.iload_n 1, 1) := by decide +kernel
theorem dX2_sentPart_71 : decode cX2_sentPart 71 = .ok (.iaload, 1) := by decide +kernel
theorem dX2_sentPart_72 : decode cX2_sentPart 72 = .ok (.ireturn, 1) := by decide +kernel
theorem dX2_sentPart_73 : decode cX2_sentPart 73 = .ok (.aload_n 0, 1) := by decide +kernel
theorem dX2_sentPart_74 : decode cX2_sentPart 74 = .ok (.getfield 21, 3) := by decide +kernel
theorem dX2_sentPart_77 : decode cX2_sentPart 77 = .ok (.iload_n 1, 1) := by decide +kernel
theorem dX2_sentPart_78 : decode cX2_sentPart 78 = .ok (.iaload, 1) := by decide +kernel
theorem dX2_sentPart_79 : decode cX2_sentPart 79 = .ok (.ireturn, 1) := by decide +kernel
theorem dX2_sentPart_80 : decode cX2_sentPart 80 = .ok (.aload_n 0, 1) := by decide +kernel
theorem dX2_sentPart_81 : decode cX2_sentPart 81 = .ok (.getfield 24, 3) := by decide +kernel
theorem dX2_sentPart_84 : decode cX2_sentPart 84 = .ok (.iload_n 1, 1) := by decide +kernel
theorem dX2_sentPart_85 : decode cX2_sentPart 85 = .ok (.iaload, 1) := by decide +kernel
theorem dX2_sentPart_86 : decode cX2_sentPart 86 = .ok (.ireturn, 1) := by decide +kernel
theorem dX2_repeatedData_0 : decode cX2_repeatedData 0 = .ok (.iconst 0, 1) := by decide +kernel
theorem dX2_repeatedData_1 : decode cX2_repeatedData 1 = .ok (.istore_n 1, 1) := by decide +kernel
theorem dX2_repeatedData_2 : decode cX2_repeatedData 2 = .ok (.iconst 0, 1) := by decide +kernel
theorem dX2_repeatedData_3 : decode cX2_repeatedData 3 = .ok (.istore_n 2, 1) := by decide +kernel
theorem dX2_repeatedData_4 : decode cX2_repeatedData 4 = .ok (.iconst 0, 1) := by decide +kernel
theorem dX2_repeatedData_5 : decode cX2_repeatedData 5 = .ok (.istore_n 3, 1) := by decide +kernel
theorem dX2_repeatedData_6 : decode cX2_repeatedData 6 = .ok (.iload_n 3, 1) := by decide +kernel
theorem dX2_repeatedData_7 : decode cX2_repeatedData 7 = .ok (.bipush 120, 2) := by decide +kernel
theorem dX2_repeatedData_9 : decode cX2_repeatedData 9 = .ok (.if_icmp .ge 50, 3) := by decide +kernel
theorem dX2_repeatedData_12 : decode cX2_repeatedData 12 = .ok (.iload_n 3, 1) := by decide +kernel
theorem dX2_repeatedData_13 : decode cX2_repeatedData 13 = .ok (.aload_n 0, 1) := by decide +kernel
theorem dX2_repeatedData_14 : decode cX2_repeatedData 14 = .ok (.getfield 39, 3) := by decide +kernel
theorem dX2_repeatedData_17 : decode cX2_repeatedData 17 = .ok (.if_icmp .ge 42, 3) := by decide +kernel
theorem dX2_repeatedData_20 : decode cX2_repeatedData 20 = .ok (.aload_n 0, 1) := by decide +kernel
theorem dX2_repeatedData_21 : decode cX2_repeatedData 21 = .ok (.getfield 15, 3) := by decide +kernel
theorem dX2_repeatedData_24 : decode cX2_repeatedData 24 = .ok (.iload_n 3, 1) := by decide +kernel
theorem dX2_repeatedData_25 : decode cX2_repeatedData 25 = .ok (.iaload, 1) := by decide +kernel
theorem dX2_repeatedData_26 : decode cX2_repeatedData 26 = .ok (.ifCond .ne 27, 3) := by decide +kernel
theorem dX2_repeatedData_29 : decode cX2_repeatedData 29 = .ok (.iload_n 2, 1) := by decide +kernel
theorem dX2_repeatedData_30 : decode cX2_repeatedData 30 = .ok (.iload_n 1, 1) := by decide +kernel
theorem dX2_repeatedData_31 : decode cX2_repeatedData 31 = .ok (.aload_n 0, 1) := by decide +kernel
theorem dX2_repeatedData_32 : decode cX2_repeatedData 32 = .ok (.getfield 18, 3) := by decide +kernel
theorem dX2_repeatedData_35 : decode cX2_repeatedData 35 = .ok (.iload_n 3, 1) := by decide +kernel
theorem dX2_repeatedData_36 : decode cX2_repeatedData 36 = .ok (.iaload, 1) := by decide +kernel
theorem dX2_repeatedData_37 : decode cX2_repeatedData 37 = .ok (.ishr, 1) := by decide +kernel
theorem dX2_repeatedData_38 : decode cX2_repeatedData 38 = .ok (.iconst 1, 1) := by decide +kernel
theorem dX2_repeatedData_39 : decode cX2_repeatedData 39 = .ok (.iand, 1) := by decide +kernel
theorem dX2_repeatedData_40 : decode cX2_repeatedData 40 = .ok (.iadd, 1) := by decide +kernel
theorem dX2_repeatedData_41 : decode cX2_repeatedData 41 = .ok (.istore_n 2, 1) := by decide +kernel
theorem dX2_repeatedData_42 : decode cX2_repeatedData 42 = .ok (.iload_n 1, 1) := by decide +kernel
theorem dX2_repeatedData_43 : decode cX2_repeatedData 43 = .ok (.iconst 1, 1) := by decide +kernel
theorem dX2_repeatedData_44 : decode cX2_repeatedData 44 = .ok (.aload_n 0, 1) := by decide +kernel
theorem dX2_repeatedData_45 : decode cX2_repeatedData 45 = .ok (.getfield 18, 3) := by decide +kernel
theorem dX2_repeatedData_48 : decode cX2_repeatedData 48 = .ok (.iload_n 3, 1) := by decide +kernel
theorem dX2_repeatedData_49 : decode cX2_repeatedData 49 = .ok (.iaload, 1) := by decide +kernel
theorem dX2_repeatedData_50 : decode cX2_repeatedData 50 = .ok (.ishl, 1) := by decide +kernel
theorem dX2_repeatedData_51 : decode cX2_repeatedData 51 = .ok (.ior, 1) := by decide +kernel
theorem dX2_repeatedData_52 : decode cX2_repeatedData 52 = .ok (.istore_n 1, 1) := by decide +kernel
theorem dX2_repeatedData_53 : decode cX2_repeatedData 53 = .ok (.iinc 3 1, 3) := by decide +kernel
theorem dX2_repeatedData_56 : decode cX2_repeatedData 56 = .ok (.goto (-50), 3) := by decide +kernel
theorem dX2_repeatedData_59 : decode cX2_repeatedData 59 = .ok (.iload_n 2, 1) := by decide +kernel
theorem dX2_repeatedData_60 : decode cX2_repeatedData 60 = .ok (.ireturn, 1) := by decide +kernel
theorem dX2_answers_0 : decode cX2_answers 0 = .ok (.iconst 0, 1) := by decide +kernel
theorem dX2_answers_1 : decode cX2_answers 1 = .ok (.istore_n 1, 1) := by decide +kernel
theorem dX2_answers_2 : decode cX2_answers 2 = .ok (.iconst 0, 1) := by decide +kernel
theorem dX2_answers_3 : decode cX2_answers 3 = .ok (.istore_n 2, 1) := by decide +kernel
theorem dX2_answers_4 : decode cX2_answers 4 = .ok (.iload_n 2, 1) := by decide +kernel
theorem dX2_answers_5 : decode cX2_answers 5 = .ok (.bipush 120, 2) := by decide +kernel
theorem dX2_answers_7 : decode cX2_answers 7 = .ok (.if_icmp .ge 30, 3) := by decide +kernel
theorem dX2_answers_10 : decode cX2_answers 10 = .ok (.iload_n 2, 1) := by decide +kernel
theorem dX2_answers_11 : decode cX2_answers 11 = .ok (.aload_n 0, 1) := by decide +kernel
theorem dX2_answers_12 : decode cX2_answers 12 = .ok (.getfield 39, 3) := by decide +kernel
theorem dX2_answers_15 : decode cX2_answers 15 = .ok (.if_icmp .ge 22, 3) := by decide +kernel
theorem dX2_answers_18 : decode cX2_answers 18 = .ok (.aload_n 0, 1) := by decide +kernel
theorem dX2_answers_19 : decode cX2_answers 19 = .ok (.getfield 15, 3) := by decide +kernel
theorem dX2_answers_22 : decode cX2_answers 22 = .ok (.iload_n 2, 1) := by decide +kernel
theorem dX2_answers_23 : decode cX2_answers 23 = .ok (.iaload, 1) := by decide +kernel
theorem dX2_answers_24 : decode cX2_answers 24 = .ok (.iconst 1, 1) := by decide +kernel
theorem dX2_answers_25 : decode cX2_answers 25 = .ok (.if_icmp .ne 6, 3) := by decide +kernel
theorem dX2_answers_28 : decode cX2_answers 28 = .ok (.iinc 1 1, 3) := by decide +kernel
theorem dX2_answers_31 : decode cX2_answers 31 = .ok (.iinc 2 1, 3) := by decide +kernel
theorem dX2_answers_34 : decode cX2_answers 34 = .ok (.goto (-30), 3) := by decide +kernel
theorem dX2_answers_37 : decode cX2_answers 37 = .ok (.iload_n 1, 1) := by decide +kernel
theorem dX2_answers_38 : decode cX2_answers 38 = .ok (.ireturn, 1) := by decide +kernel
theorem dX3_init_0 : decode cX3_init 0 = .ok (.aload_n 0, 1) := by decide +kernel
theorem dX3_init_1 : decode cX3_init 1 = .ok (.invokespecial 3, 3) := by decide +kernel
theorem dX3_init_4 : decode cX3_init 4 = .ok (.aload_n 0, 1) := by decide +kernel
theorem dX3_init_5 : decode cX3_init 5 = .ok (.sipush 500, 3) := by decide +kernel
theorem dX3_init_8 : decode cX3_init 8 = .ok (.newarray .int, 2) := by decide +kernel
theorem dX3_init_10 : decode cX3_init 10 = .ok (.putfield 9, 3) := by decide +kernel
theorem dX3_init_13 : decode cX3_init 13 = .ok (.aload_n 0, 1) := by decide +kernel
theorem dX3_init_14 : decode cX3_init 14 = .ok (.iconst (-1), 1) := by decide +kernel
theorem dX3_init_15 : decode cX3_init 15 = .ok (.putfield 15, 3) := by decide +kernel
theorem dX3_init_18 : decode cX3_init 18 = .ok (.aload_n 0, 1) := by decide +kernel
theorem dX3_init_19 : decode cX3_init 19 = .ok (.new 19, 3) := by decide +kernel
theorem dX3_init_22 : decode cX3_init 22 = .ok (.dup, 1) := by decide +kernel
theorem dX3_init_23 : decode cX3_init 23 = .ok (.invokespecial 21, 3) := by decide +kernel
theorem dX3_init_26 : decode cX3_init 26 = .ok (.putfield 22, 3) := by decide +kernel
theorem dX3_init_29 : decode cX3_init 29 = .ok (.return_, 1) := by decide +kernel
theorem dX3_heldBytes_0 : decode cX3_heldBytes 0 = .ok (.aload_n 0, 1) := by decide +kernel
theorem dX3_heldBytes_1 : decode cX3_heldBytes 1 = .ok (.getfield 26, 3) := by decide +kernel
theorem dX3_heldBytes_4 : decode cX3_heldBytes 4 = .ok (.ireturn, 1) := by decide +kernel
theorem dX3_hold_0 : decode cX3_hold 0 = .ok (.bipush 24, 2) := by decide +kernel
theorem dX3_hold_2 : decode cX3_hold 2 = .ok (.istore_n 2, 1) := by decide +kernel
theorem dX3_hold_3 : decode cX3_hold 3 = .ok (.iload_n 2, 1) := by decide +kernel
theorem dX3_hold_4 : decode cX3_hold 4 = .ok (.ifCond .lt 52, 3) := by decide +kernel
theorem dX3_hold_7 : decode cX3_hold 7 = .ok (.aload_n 0, 1) := by decide +kernel
theorem dX3_hold_8 : decode cX3_hold 8 = .ok (.getfield 26, 3) := by decide +kernel
theorem dX3_hold_11 : decode cX3_hold 11 = .ok (.ifCond .lt 39, 3) := by decide +kernel
theorem dX3_hold_14 : decode cX3_hold 14 = .ok (.aload_n 0, 1) := by decide +kernel
theorem dX3_hold_15 : decode cX3_hold 15 = .ok (.getfield 26, 3) := by decide +kernel
theorem dX3_hold_18 : decode cX3_hold 18 = .ok (.sipush 500, 3) := by decide +kernel
theorem dX3_hold_21 : decode cX3_hold 21 = .ok (.if_icmp .ge 29, 3) := by decide +kernel
theorem dX3_hold_24 : decode cX3_hold 24 = .ok (.aload_n 0, 1) := by decide +kernel
theorem dX3_hold_25 : decode cX3_hold 25 = .ok (.getfield 9, 3) := by decide +kernel
theorem dX3_hold_28 : decode cX3_hold 28 = .ok (.aload_n 0, 1) := by decide +kernel
theorem dX3_hold_29 : decode cX3_hold 29 = .ok (.getfield 26, 3) := by decide +kernel
theorem dX3_hold_32 : decode cX3_hold 32 = .ok (.iload_n 1, 1) := by decide +kernel
theorem dX3_hold_33 : decode cX3_hold 33 = .ok (.iload_n 2, 1) := by decide +kernel
theorem dX3_hold_34 : decode cX3_hold 34 = .ok (.iushr, 1) := by decide +kernel
theorem dX3_hold_35 : decode cX3_hold 35 = .ok (.sipush 255, 3) := by decide +kernel
theorem dX3_hold_38 : decode cX3_hold 38 = .ok (.iand, 1) := by decide +kernel
theorem dX3_hold_39 : decode cX3_hold 39 = .ok (.iastore, 1) := by decide +kernel
theorem dX3_hold_40 : decode cX3_hold 40 = .ok (.aload_n 0, 1) := by decide +kernel
theorem dX3_hold_41 : decode cX3_hold 41 = .ok (.dup, 1) := by decide +kernel
theorem dX3_hold_42 : decode cX3_hold 42 = .ok (.getfield 26, 3) := by decide +kernel
theorem dX3_hold_45 : decode cX3_hold 45 = .ok (.iconst 1, 1) := by decide +kernel
theorem dX3_hold_46 : decode cX3_hold 46 = .ok (.iadd, 1) := by decide +kernel
theorem dX3_hold_47 : decode cX3_hold 47 = .ok (.putfield 26, 3) := by decide +kernel
theorem dX3_hold_50 : decode cX3_hold 50 = .ok (.iinc 2 (-8), 3) := by decide +kernel
theorem dX3_hold_53 : decode cX3_hold 53 = .ok (.goto (-50), 3) := by decide +kernel
theorem dX3_hold_56 : decode cX3_hold 56 = .ok (.return_, 1) := by decide +kernel
theorem dX3_described_0 : decode cX3_described 0 = .ok (.aload_n 0, 1) := by decide +kernel
theorem dX3_described_1 : decode cX3_described 1 = .ok (.getfield 22, 3) := by decide +kernel
theorem dX3_described_4 : decode cX3_described 4 = .ok (.areturn, 1) := by decide +kernel
theorem dX3_read_0 : decode cX3_read 0 = .ok (.aload_n 0, 1) := by decide +kernel
theorem dX3_read_1 : decode cX3_read 1 = .ok (.iload_n 1, 1) := by decide +kernel
theorem dX3_read_2 : decode cX3_read 2 = .ok (.putfield 29, 3) := by decide +kernel
theorem dX3_read_5 : decode cX3_read 5 = .ok (.aload_n 0, 1) := by decide +kernel
theorem dX3_read_6 : decode cX3_read 6 = .ok (.iconst 0, 1) := by decide +kernel
theorem dX3_read_7 : decode cX3_read 7 = .ok (.putfield 32, 3) := by decide +kernel
theorem dX3_read_10 : decode cX3_read 10 = .ok (.aload_n 0, 1) := by decide +kernel
theorem dX3_read_11 : decode cX3_read 11 = .ok (.iconst 0, 1) := by decide +kernel
theorem dX3_read_12 : decode cX3_read 12 = .ok (.putfield 35, 3) := by decide +kernel
theorem dX3_read_15 : decode cX3_read 15 = .ok (.aload_n 0, 1) := by decide +kernel
theorem dX3_read_16 : decode cX3_read 16 = .ok (.iconst 0, 1) := by decide +kernel
theorem dX3_read_17 : decode cX3_read 17 = .ok (.putfield 38, 3) := by decide +kernel
theorem dX3_read_20 : decode cX3_read 20 = .ok (.aload_n 0, 1) := by decide +kernel
theorem dX3_read_21 : decode cX3_read 21 = .ok (.iconst (-1), 1) := by decide +kernel
theorem dX3_read_22 : decode cX3_read 22 = .ok (.putfield 15, 3) := by decide +kernel
theorem dX3_read_25 : decode cX3_read 25 = .ok (.aload_n 0, 1) := by decide +kernel
theorem dX3_read_26 : decode cX3_read 26 = .ok (.getfield 22, 3) := by decide +kernel
theorem dX3_read_29 : decode cX3_read 29 = .ok (.invokevirtual 41, 3) := by decide +kernel
theorem dX3_read_32 : decode cX3_read 32 = .ok (.aload_n 0, 1) := by decide +kernel
theorem dX3_read_33 : decode cX3_read 33 = .ok (.invokevirtual 44, 3) := by decide +kernel
theorem dX3_read_36 : decode cX3_read 36 = .ok (.istore_n 2, 1) := by decide +kernel
theorem dX3_read_37 : decode cX3_read 37 = .ok (.iconst 0, 1) := by decide +kernel
theorem dX3_read_38 : decode cX3_read 38 = .ok (.istore_n 3, 1) := by decide +kernel
theorem dX3_read_39 : decode cX3_read 39 = .ok (.iload_n 3, 1) := by decide +kernel
theorem dX3_read_40 : decode cX3_read 40 = .ok (.sipush 500, 3) := by decide +kernel
theorem dX3_read_43 : decode cX3_read 43 = .ok (.if_icmp .ge 32, 3) := by decide +kernel
theorem dX3_read_46 : decode cX3_read 46 = .ok (.iload_n 2, 1) := by decide +kernel
theorem dX3_read_47 : decode cX3_read 47 = .ok (.ifCond .eq 28, 3) := by decide +kernel
theorem dX3_read_50 : decode cX3_read 50 = .ok (.aload_n 0, 1) := by decide +kernel
theorem dX3_read_51 : decode cX3_read 51 = .ok (.invokevirtual 48, 3) := by decide +kernel
theorem dX3_read_54 : decode cX3_read 54 = .ok (.aload_n 0, 1) := by decide +kernel
theorem dX3_read_55 : decode cX3_read 55 = .ok (.getfield 51, 3) := by decide +kernel
theorem dX3_read_58 : decode cX3_read 58 = .ok (.ifCond .ne 6, 3) := by decide +kernel
theorem dX3_read_61 : decode cX3_read 61 = .ok (.goto 14, 3) := by decide +kernel
theorem dX3_read_64 : decode cX3_read 64 = .ok (.aload_n 0, 1) := by decide +kernel
theorem dX3_read_65 : decode cX3_read 65 = .ok (.invokevirtual 54, 3) := by decide +kernel
theorem dX3_read_68 : decode cX3_read 68 = .ok (.istore_n 2, 1) := by decide +kernel
theorem dX3_read_69 : decode cX3_read 69 = .ok (.iinc 3 1, 3) := by decide +kernel
theorem dX3_read_72 : decode cX3_read 72 = .ok (.goto (-33), 3) := by decide +kernel
theorem dX3_read_75 : decode cX3_read 75 = .ok (.aload_n 0, 1) := by decide +kernel
theorem dX3_read_76 : decode cX3_read 76 = .ok (.iconst 0, 1) := by decide +kernel
theorem dX3_read_77 : decode cX3_read 77 = .ok (.putfield 26, 3) := by decide +kernel
theorem dX3_read_80 : decode cX3_read 80 = .ok (.aload_n 0, 1) := by decide +kernel
theorem dX3_read_81 : decode cX3_read 81 = .ok (.getfield 38, 3) := by decide +kernel
theorem dX3_read_84 : decode cX3_read 84 = .ok (.ireturn, 1) := by decide +kernel
theorem dX3_readHead_0 : decode cX3_readHead 0 = .ok (.aload_n 0, 1) := by decide +kernel
theorem dX3_readHead_1 : decode cX3_readHead 1 = .ok (.invokevirtual 48, 3) := by decide +kernel
theorem dX3_readHead_4 : decode cX3_readHead 4 = .ok (.aload_n 0, 1) := by decide +kernel
theorem dX3_readHead_5 : decode cX3_readHead 5 = .ok (.ldc 57, 2) := by decide +kernel
theorem dX3_readHead_7 : decode cX3_readHead 7 = .ok (.invokevirtual 59, 3) := by decide +kernel
theorem dX3_readHead_10 : decode cX3_readHead 10 = .ok (.ifCond .ne 9, 3) := by decide +kernel
theorem dX3_readHead_13 : decode cX3_readHead 13 = .ok (.aload_n 0, 1) := by decide +kernel
theorem dX3_readHead_14 : decode cX3_readHead 14 = .ok (.iconst 1, 1) := by decide +kernel
theorem dX3_readHead_15 : decode cX3_readHead 15 = .ok (.invokevirtual 63, 3) := by decide +kernel
theorem dX3_readHead_18 : decode cX3_readHead 18 = .ok (.ireturn, 1) := by decide +kernel
theorem dX3_readHead_19 : decode cX3_readHead 19 = .ok (.aload_n 0, 1) := by decide +kernel
theorem dX3_readHead_20 : decode cX3_readHead 20 = .ok (.invokevirtual 48, 3) := by decide +kernel
theorem dX3_readHead_23 : decode cX3_readHead 23 = .ok (.aload_n 0, 1) := by decide +kernel
theorem dX3_readHead_24 : decode cX3_readHead 24 = .ok (.invokevirtual 67, 3) := by decide +kernel
theorem dX3_readHead_27 : decode cX3_readHead 27 = .ok (.istore_n 1, 1) := by decide +kernel
theorem dX3_readHead_28 : decode cX3_readHead 28 = .ok (.iload_n 1, 1) := by decide +kernel
theorem dX3_readHead_29 : decode cX3_readHead 29 = .ok (.iconst (-1), 1) := by decide +kernel
theorem dX3_readHead_30 : decode cX3_readHead 30 = .ok (.if_icmp .ne 9, 3) := by decide +kernel
theorem dX3_readHead_33 : decode cX3_readHead 33 = .ok (.aload_n 0, 1) := by decide +kernel
theorem dX3_readHead_34 : decode cX3_readHead 34 = .ok (.iconst 1, 1) := by decide +kernel
theorem dX3_readHead_35 : decode cX3_readHead 35 = .ok (.invokevirtual 63, 3) := by decide +kernel
theorem dX3_readHead_38 : decode cX3_readHead 38 = .ok (.ireturn, 1) := by decide +kernel
theorem dX3_readHead_39 : decode cX3_readHead 39 = .ok (.aload_n 0, 1) := by decide +kernel
theorem dX3_readHead_40 : decode cX3_readHead 40 = .ok (.getfield 22, 3) := by decide +kernel
theorem dX3_readHead_43 : decode cX3_readHead 43 = .ok (.iconst 0, 1) := by decide +kernel
theorem dX3_readHead_44 : decode cX3_readHead 44 = .ok (.iload_n 1, 1) := by decide +kernel
theorem dX3_readHead_45 : decode cX3_readHead 45 = .ok (.invokevirtual 71, 3) := by decide +kernel
theorem dX3_readHead_48 : decode cX3_readHead 48 = .ok (.aload_n 0, 1) := by decide +kernel
theorem dX3_readHead_49 : decode cX3_readHead 49 = .ok (.iconst 1, 1) := by decide +kernel
theorem dX3_readHead_50 : decode cX3_readHead 50 = .ok (.invokevirtual 75, 3) := by decide +kernel
theorem dX3_readHead_53 : decode cX3_readHead 53 = .ok (.ifCond .eq 22, 3) := by decide +kernel
theorem dX3_readHead_56 : decode cX3_readHead 56 = .ok (.aload_n 0, 1) := by decide +kernel
theorem dX3_readHead_57 : decode cX3_readHead 57 = .ok (.iconst 2, 1) := by decide +kernel
theorem dX3_readHead_58 : decode cX3_readHead 58 = .ok (.invokevirtual 75, 3) := by decide +kernel
theorem dX3_readHead_61 : decode cX3_readHead 61 = .ok (.ifCond .eq 14, 3) := by decide +kernel
theorem dX3_readHead_64 : decode cX3_readHead 64 = .ok (.aload_n 0, 1) := by decide +kernel
theorem dX3_readHead_65 : decode cX3_readHead 65 = .ok (.invokevirtual 78, 3) := by decide +kernel
theorem dX3_readHead_68 : decode cX3_readHead 68 = .ok (.ifCond .eq 7, 3) := by decide +kernel
theorem dX3_readHead_71 : decode cX3_readHead 71 = .ok (.iconst 1, 1) := by decide +kernel
theorem dX3_readHead_72 : decode cX3_readHead 72 = .ok (.goto 4, 3) := by decide +kernel
theorem dX3_readHead_75 : decode cX3_readHead 75 = .ok (.iconst 0, 1) := by decide +kernel
theorem dX3_readHead_76 : decode cX3_readHead 76 = .ok (.ireturn, 1) := by decide +kernel
theorem dX3_readStatement_0 : decode cX3_readStatement 0 = .ok (.aload_n 0, 1) := by decide +kernel
theorem dX3_readStatement_1 : decode cX3_readStatement 1 = .ok (.invokevirtual 81, 3) := by decide +kernel
theorem dX3_readStatement_4 : decode cX3_readStatement 4 = .ok (.istore_n 1, 1) := by decide +kernel
theorem dX3_readStatement_5 : decode cX3_readStatement 5 = .ok (.iload_n 1, 1) := by decide +kernel
theorem dX3_readStatement_6 : decode cX3_readStatement 6 = .ok (.iconst (-1), 1) := by decide +kernel
theorem dX3_readStatement_7 : decode cX3_readStatement 7 = .ok (.if_icmp .ne 23, 3) := by decide +kernel
theorem dX3_readStatement_10 : decode cX3_readStatement 10 = .ok (.aload_n 0, 1) := by decide +kernel
theorem dX3_readStatement_11 : decode cX3_readStatement 11 = .ok (.invokevirtual 84, 3) := by decide +kernel
theorem dX3_readStatement_14 : decode cX3_readStatement 14 = .ok (.ifCond .eq 14, 3) := by decide +kernel
theorem dX3_readStatement_17 : decode cX3_readStatement 17 = .ok (.aload_n 0, 1) := by decide +kernel
theorem dX3_readStatement_18 : decode cX3_readStatement 18 = .ok (.invokevirtual 78, 3) := by decide +kernel
theorem dX3_readStatement_21 : decode cX3_readStatement 21 = .ok (.ifCond .eq 7, 3) := by decide +kernel
theorem dX3_readStatement_24 : decode cX3_readStatement 24 = .ok (.iconst 1, 1) := by decide +kernel
theorem dX3_readStatement_25 : decode cX3_readStatement 25 = .ok (.goto 4, 3) := by decide +kernel
theorem dX3_readStatement_28 : decode cX3_readStatement 28 = .ok (.iconst 0, 1) := by decide +kernel
theorem dX3_readStatement_29 : decode cX3_readStatement 29 = .ok (.ireturn, 1) := by decide +kernel
theorem dX3_readStatement_30 : decode cX3_readStatement 30 = .ok (.aload_n 0, 1) := by decide +kernel
theorem dX3_readStatement_31 : decode cX3_readStatement 31 = .ok (.getfield 35, 3) := by decide +kernel
theorem dX3_readStatement_34 : decode cX3_readStatement 34 = .ok (.iload_n 1, 1) := by decide +kernel
theorem dX3_readStatement_35 : decode cX3_readStatement 35 = .ok (.ishr, 1) := by decide +kernel
theorem dX3_readStatement_36 : decode cX3_readStatement 36 = .ok (.iconst 1, 1) := by decide +kernel
theorem dX3_readStatement_37 : decode cX3_readStatement 37 = .ok (.iand, 1) := by decide +kernel
theorem dX3_readStatement_38 : decode cX3_readStatement 38 = .ok (.ifCond .eq 9, 3) := by decide +kernel
theorem dX3_readStatement_41 : decode cX3_readStatement 41 = .ok (.aload_n 0, 1) := by decide +kernel
theorem dX3_readStatement_42 : decode cX3_readStatement 42 = .ok (.iconst 2, 1) := by decide +kernel
theorem dX3_readStatement_43 : decode cX3_readStatement 43 = .ok (.invokevirtual 63, 3) := by decide +kernel
theorem dX3_readStatement_46 : decode cX3_readStatement 46 = .ok (.ireturn, 1) := by decide +kernel
theorem dX3_readStatement_47 : decode cX3_readStatement 47 = .ok (.aload_n 0, 1) := by decide +kernel
theorem dX3_readStatement_48 : decode cX3_readStatement 48 = .ok (.dup, 1) := by decide +kernel
theorem dX3_readStatement_49 : decode cX3_readStatement 49 = .ok (.getfield 35, 3) := by decide +kernel
theorem dX3_readStatement_52 : decode cX3_readStatement 52 = .ok (.iconst 1, 1) := by decide +kernel
theorem dX3_readStatement_53 : decode cX3_readStatement 53 = .ok (.iload_n 1, 1) := by decide +kernel
theorem dX3_readStatement_54 : decode cX3_readStatement 54 = .ok (.ishl, 1) := by decide +kernel
theorem dX3_readStatement_55 : decode cX3_readStatement 55 = .ok (.ior, 1) := by decide +kernel
theorem dX3_readStatement_56 : decode cX3_readStatement 56 = .ok (.putfield 35, 3) := by decide +kernel
theorem dX3_readStatement_59 : decode cX3_readStatement 59 = .ok (.aload_n 0, 1) := by decide +kernel
theorem dX3_readStatement_60 : decode cX3_readStatement 60 = .ok (.iload_n 1, 1) := by decide +kernel
theorem dX3_readStatement_61 : decode cX3_readStatement 61 = .ok (.invokevirtual 75, 3) := by decide +kernel
theorem dX3_readStatement_64 : decode cX3_readStatement 64 = .ok (.ifCond .ne 5, 3) := by decide +kernel
theorem dX3_readStatement_67 : decode cX3_readStatement 67 = .ok (.iconst 0, 1) := by decide +kernel
theorem dX3_readStatement_68 : decode cX3_readStatement 68 = .ok (.ireturn, 1) := by decide +kernel
theorem dX3_readStatement_69 : decode cX3_readStatement 69 = .ok (.iload_n 1, 1) := by decide +kernel
theorem dX3_readStatement_70 : decode cX3_readStatement 70 = .ok (.iconst 5, 1) := by decide +kernel
theorem dX3_readStatement_71 : decode cX3_readStatement 71 = .ok (.if_icmp .ne 14, 3) := by decide +kernel
theorem dX3_readStatement_74 : decode cX3_readStatement 74 = .ok (.aload_n 0, 1) := by decide +kernel
theorem dX3_readStatement_75 : decode cX3_readStatement 75 = .ok (.bipush 6, 2) := by decide +kernel
theorem dX3_readStatement_77 : decode cX3_readStatement 77 = .ok (.invokevirtual 75, 3) := by decide +kernel
theorem dX3_readStatement_80 : decode cX3_readStatement 80 = .ok (.ifCond .ne 5, 3) := by decide +kernel
theorem dX3_readStatement_83 : decode cX3_readStatement 83 = .ok (.iconst 0, 1) := by decide +kernel
theorem dX3_readStatement_84 : decode cX3_readStatement 84 = .ok (.ireturn, 1) := by decide +kernel
theorem dX3_readStatement_85 : decode cX3_readStatement 85 = .ok (.aload_n 0, 1) := by decide +kernel
theorem dX3_readStatement_86 : decode cX3_readStatement 86 = .ok (.invokevirtual 78, 3) := by decide +kernel
theorem dX3_readStatement_89 : decode cX3_readStatement 89 = .ok (.ireturn, 1) := by decide +kernel
theorem dX3_readFault_0 : decode cX3_readFault 0 = .ok (.aload_n 0, 1) := by decide +kernel
theorem dX3_readFault_1 : decode cX3_readFault 1 = .ok (.invokevirtual 87, 3) := by decide +kernel
theorem dX3_readFault_4 : decode cX3_readFault 4 = .ok (.istore_n 1, 1) := by decide +kernel
theorem dX3_readFault_5 : decode cX3_readFault 5 = .ok (.iload_n 1, 1) := by decide +kernel
theorem dX3_readFault_6 : decode cX3_readFault 6 = .ok (.iconst (-1), 1) := by decide +kernel
theorem dX3_readFault_7 : decode cX3_readFault 7 = .ok (.if_icmp .ne 9, 3) := by decide +kernel
theorem dX3_readFault_10 : decode cX3_readFault 10 = .ok (.aload_n 0, 1) := by decide +kernel
theorem dX3_readFault_11 : decode cX3_readFault 11 = .ok (.iconst 1, 1) := by decide +kernel
theorem dX3_readFault_12 : decode cX3_readFault 12 = .ok (.invokevirtual 63, 3) := by decide +kernel
theorem dX3_readFault_15 : decode cX3_readFault 15 = .ok (.ireturn, 1) := by decide +kernel
theorem dX3_readFault_16 : decode cX3_readFault 16 = .ok (.aload_n 0, 1) := by decide +kernel
theorem dX3_readFault_17 : decode cX3_readFault 17 = .ok (.getfield 22, 3) := by decide +kernel
theorem dX3_readFault_20 : decode cX3_readFault 20 = .ok (.invokevirtual 90, 3) := by decide +kernel
theorem dX3_readFault_23 : decode cX3_readFault 23 = .ok (.bipush 10, 2) := by decide +kernel
theorem dX3_readFault_25 : decode cX3_readFault 25 = .ok (.if_icmp .lt 9, 3) := by decide +kernel
theorem dX3_readFault_28 : decode cX3_readFault 28 = .ok (.aload_n 0, 1) := by decide +kernel
theorem dX3_readFault_29 : decode cX3_readFault 29 = .ok (.iconst 4, 1) := by decide +kernel
theorem dX3_readFault_30 : decode cX3_readFault 30 = .ok (.invokevirtual 63, 3) := by decide +kernel
theorem dX3_readFault_33 : decode cX3_readFault 33 = .ok (.ireturn, 1) := by decide +kernel
theorem dX3_readFault_34 : decode cX3_readFault 34 = .ok (.aload_n 0, 1) := by decide +kernel
theorem dX3_readFault_35 : decode cX3_readFault 35 = .ok (.iconst 0, 1) := by decide +kernel
theorem dX3_readFault_36 : decode cX3_readFault 36 = .ok (.bipush 119, 2) := by decide +kernel
theorem dX3_readFault_38 : decode cX3_readFault 38 = .ok (.invokevirtual 93, 3) := by decide +kernel
theorem dX3_readFault_41 : decode cX3_readFault 41 = .ok (.istore_n 2, 1) := by decide +kernel
theorem dX3_readFault_42 : decode cX3_readFault 42 = .ok (.iload_n 2, 1) := by decide +kernel
theorem dX3_readFault_43 : decode cX3_readFault 43 = .ok (.iconst (-1), 1) := by decide +kernel
theorem dX3_readFault_44 : decode cX3_readFault 44 = .ok (.if_icmp .ne 5, 3) := by decide +kernel
theorem dX3_readFault_47 : decode cX3_readFault 47 = .ok (.iconst 0, 1) := by decide +kernel
theorem dX3_readFault_48 : decode cX3_readFault 48 = .ok (.ireturn, 1) := by decide +kernel
theorem dX3_readFault_49 : decode cX3_readFault 49 = .ok (.aload_n 0, 1) := by decide +kernel
theorem dX3_readFault_50 : decode cX3_readFault 50 = .ok (.getfield 22, 3) := by decide +kernel
theorem dX3_readFault_53 : decode cX3_readFault 53 = .ok (.iload_n 1, 1) := by decide +kernel
theorem dX3_readFault_54 : decode cX3_readFault 54 = .ok (.iload_n 2, 1) := by decide +kernel
theorem dX3_readFault_55 : decode cX3_readFault 55 = .ok (.invokevirtual 97, 3) := by decide +kernel
theorem dX3_readFault_58 : decode cX3_readFault 58 = .ok (.iconst (-1), 1) := by decide +kernel
theorem dX3_readFault_59 : decode cX3_readFault 59 = .ok (.if_icmp .eq 9, 3) := by decide +kernel
theorem dX3_readFault_62 : decode cX3_readFault 62 = .ok (.aload_n 0, 1) := by decide +kernel
theorem dX3_readFault_63 : decode cX3_readFault 63 = .ok (.iconst 2, 1) := by decide +kernel
theorem dX3_readFault_64 : decode cX3_readFault 64 = .ok (.invokevirtual 63, 3) := by decide +kernel
theorem dX3_readFault_67 : decode cX3_readFault 67 = .ok (.ireturn, 1) := by decide +kernel
theorem dX3_readFault_68 : decode cX3_readFault 68 = .ok (.iload_n 1, 1) := by decide +kernel
theorem dX3_readFault_69 : decode cX3_readFault 69 = .ok (.iconst 2, 1) := by decide +kernel
theorem dX3_readFault_70 : decode cX3_readFault 70 = .ok (.if_icmp .ne 13, 3) := by decide +kernel
theorem dX3_readFault_73 : decode cX3_readFault 73 = .ok (.aload_n 0, 1) := by decide +kernel
theorem dX3_readFault_74 : decode cX3_readFault 74 = .ok (.iconst 1, 1) := by decide +kernel
theorem dX3_readFault_75 : decode cX3_readFault 75 = .ok (.bipush 20, 2) := by decide +kernel
theorem dX3_readFault_77 : decode cX3_readFault 77 = .ok (.invokevirtual 93, 3) := by decide +kernel
theorem dX3_readFault_80 : decode cX3_readFault 80 = .ok (.goto 4, 3) := by decide +kernel
theorem dX3_readFault_83 : decode cX3_readFault 83 = .ok (.iconst 0, 1) := by decide +kernel
theorem dX3_readFault_84 : decode cX3_readFault 84 = .ok (.istore_n 3, 1) := by decide +kernel
theorem dX3_readFault_85 : decode cX3_readFault 85 = .ok (.iload_n 3, 1) := by decide +kernel
theorem dX3_readFault_86 : decode cX3_readFault 86 = .ok (.iconst (-1), 1) := by decide +kernel
theorem dX3_readFault_87 : decode cX3_readFault 87 = .ok (.if_icmp .ne 5, 3) := by decide +kernel
theorem dX3_readFault_90 : decode cX3_readFault 90 = .ok (.iconst 0, 1) := by decide +kernel
theorem dX3_readFault_91 : decode cX3_readFault 91 = .ok (.ireturn, 1) := by decide +kernel
theorem dX3_readFault_92 : decode cX3_readFault 92 = .ok (.aload_n 0, 1) := by decide +kernel
theorem dX3_readFault_93 : decode cX3_readFault 93 = .ok (.getfield 22, 3) := by decide +kernel
theorem dX3_readFault_96 : decode cX3_readFault 96 = .ok (.iload_n 1, 1) := by decide +kernel
theorem dX3_readFault_97 : decode cX3_readFault 97 = .ok (.iload_n 2, 1) := by decide +kernel
theorem dX3_readFault_98 : decode cX3_readFault 98 = .ok (.iload_n 3, 1) := by decide +kernel
theorem dX3_readFault_99 : decode cX3_readFault 99 = .ok (.invokevirtual 100, 3) := by decide +kernel
theorem dX3_readFault_102 : decode cX3_readFault 102 = .ok (.pop, 1) := by decide +kernel
theorem dX3_readFault_103 : decode cX3_readFault 103 = .ok (.iconst 1, 1) := by decide +kernel
theorem dX3_readFault_104 : decode cX3_readFault 104 = .ok (.ireturn, 1) := by decide +kernel
theorem dX3_readSetting_0 : decode cX3_readSetting 0 = .ok (.iload_n 1, 1) := by decide +kernel
theorem dX3_readSetting_1 : decode cX3_readSetting 1 = .ok (.ifCond .lt 9, 3) := by decide +kernel
theorem dX3_readSetting_4 : decode cX3_readSetting 4 = .ok (.iload_n 1, 1) := by decide +kernel
theorem dX3_readSetting_5 : decode cX3_readSetting 5 = .ok (.bipush 8, 2) := by decide +kernel
theorem dX3_readSetting_7 : decode cX3_readSetting 7 = .ok (.if_icmp .lt 5, 3) := by decide +kernel
theorem dX3_readSetting_10 : decode cX3_readSetting 10 = .ok (.iconst 0, 1) := by decide +kernel
theorem dX3_readSetting_11 : decode cX3_readSetting 11 = .ok (.ireturn, 1) := by decide +kernel
theorem dX3_readSetting_12 : decode cX3_readSetting 12 = .ok (.aload_n 0, 1) := by decide +kernel
theorem dX3_readSetting_13 : decode cX3_readSetting 13 = .ok (.getstatic 104, 3) := by decide +kernel
theorem dX3_readSetting_16 : decode cX3_readSetting 16 = .ok (.iload_n 1, 1) := by decide +kernel
theorem dX3_readSetting_17 : decode cX3_readSetting 17 = .ok (.iaload, 1) := by decide +kernel
theorem dX3_readSetting_18 : decode cX3_readSetting 18 = .ok (.getstatic 107, 3) := by decide +kernel
theorem dX3_readSetting_21 : decode cX3_readSetting 21 = .ok (.iload_n 1, 1) := by decide +kernel
theorem dX3_readSetting_22 : decode cX3_readSetting 22 = .ok (.iaload, 1) := by decide +kernel
theorem dX3_readSetting_23 : decode cX3_readSetting 23 = .ok (.invokevirtual 93, 3) := by decide +kernel
theorem dX3_readSetting_26 : decode cX3_readSetting 26 = .ok (.istore_n 2, 1) := by decide +kernel
theorem dX3_readSetting_27 : decode cX3_readSetting 27 = .ok (.iload_n 2, 1) := by decide +kernel
theorem dX3_readSetting_28 : decode cX3_readSetting 28 = .ok (.iconst (-1), 1) := by decide +kernel
theorem dX3_readSetting_29 : decode cX3_readSetting 29 = .ok (.if_icmp .ne 5, 3) := by decide +kernel
theorem dX3_readSetting_32 : decode cX3_readSetting 32 = .ok (.iconst 0, 1) := by decide +kernel
theorem dX3_readSetting_33 : decode cX3_readSetting 33 = .ok (.ireturn, 1) := by decide +kernel
theorem dX3_readSetting_34 : decode cX3_readSetting 34 = .ok (.aload_n 0, 1) := by decide +kernel
theorem dX3_readSetting_35 : decode cX3_readSetting 35 = .ok (.getfield 22, 3) := by decide +kernel
theorem dX3_readSetting_38 : decode cX3_readSetting 38 = .ok (.iload_n 1, 1) := by decide +kernel
theorem dX3_readSetting_39 : decode cX3_readSetting 39 = .ok (.iload_n 2, 1) := by decide +kernel
theorem dX3_readSetting_40 : decode cX3_readSetting 40 = .ok (.invokevirtual 71, 3) := by decide +kernel
theorem dX3_readSetting_43 : decode cX3_readSetting 43 = .ok (.iconst 1, 1) := by decide +kernel
theorem dX3_readSetting_44 : decode cX3_readSetting 44 = .ok (.ireturn, 1) := by decide +kernel
theorem dX3_readSemicolon_0 : decode cX3_readSemicolon 0 = .ok (.aload_n 0, 1) := by decide +kernel
theorem dX3_readSemicolon_1 : decode cX3_readSemicolon 1 = .ok (.invokevirtual 48, 3) := by decide +kernel
theorem dX3_readSemicolon_4 : decode cX3_readSemicolon 4 = .ok (.aload_n 0, 1) := by decide +kernel
theorem dX3_readSemicolon_5 : decode cX3_readSemicolon 5 = .ok (.getfield 51, 3) := by decide +kernel
theorem dX3_readSemicolon_8 : decode cX3_readSemicolon 8 = .ok (.iconst 3, 1) := by decide +kernel
theorem dX3_readSemicolon_9 : decode cX3_readSemicolon 9 = .ok (.if_icmp .eq 11, 3) := by decide +kernel
theorem dX3_readSemicolon_12 : decode cX3_readSemicolon 12 = .ok (.aload_n 0, 1) := by decide +kernel
theorem dX3_readSemicolon_13 : decode cX3_readSemicolon 13 = .ok (.iconst 1, 1) := by decide +kernel
theorem dX3_readSemicolon_14 : decode cX3_readSemicolon 14 = .ok (.invokevirtual 63, 3) := by decide +kernel
theorem dX3_readSemicolon_17 : decode cX3_readSemicolon 17 = .ok (.ifCond .eq 7, 3) := by decide +kernel
theorem dX3_readSemicolon_20 : decode cX3_readSemicolon 20 = .ok (.iconst 1, 1) := by decide +kernel
theorem dX3_readSemicolon_21 : decode cX3_readSemicolon 21 = .ok (.goto 4, 3) := by decide +kernel
theorem dX3_readSemicolon_24 : decode cX3_readSemicolon 24 = .ok (.iconst 0, 1) := by decide +kernel
theorem dX3_readSemicolon_25 : decode cX3_readSemicolon 25 = .ok (.ireturn, 1) := by decide +kernel
theorem dX3_readNumber_0 : decode cX3_readNumber 0 = .ok (.aload_n 0, 1) := by decide +kernel
theorem dX3_readNumber_1 : decode cX3_readNumber 1 = .ok (.invokevirtual 48, 3) := by decide +kernel
theorem dX3_readNumber_4 : decode cX3_readNumber 4 = .ok (.aload_n 0, 1) := by decide +kernel
theorem dX3_readNumber_5 : decode cX3_readNumber 5 = .ok (.getfield 51, 3) := by decide +kernel
theorem dX3_readNumber_8 : decode cX3_readNumber 8 = .ok (.iconst 2, 1) := by decide +kernel
theorem dX3_readNumber_9 : decode cX3_readNumber 9 = .ok (.if_icmp .eq 11, 3) := by decide +kernel
theorem dX3_readNumber_12 : decode cX3_readNumber 12 = .ok (.aload_n 0, 1) := by decide +kernel
theorem dX3_readNumber_13 : decode cX3_readNumber 13 = .ok (.iconst 1, 1) := by decide +kernel
theorem dX3_readNumber_14 : decode cX3_readNumber 14 = .ok (.invokevirtual 63, 3) := by decide +kernel
theorem dX3_readNumber_17 : decode cX3_readNumber 17 = .ok (.pop, 1) := by decide +kernel
theorem dX3_readNumber_18 : decode cX3_readNumber 18 = .ok (.iconst (-1), 1) := by decide +kernel
theorem dX3_readNumber_19 : decode cX3_readNumber 19 = .ok (.ireturn, 1) := by decide +kernel
theorem dX3_readNumber_20 : decode cX3_readNumber 20 = .ok (.iconst 0, 1) := by decide +kernel
theorem dX3_readNumber_21 : decode cX3_readNumber 21 = .ok (.istore_n 3, 1) := by decide +kernel
theorem dX3_readNumber_22 : decode cX3_readNumber 22 = .ok (.aload_n 0, 1) := by decide +kernel
theorem dX3_readNumber_23 : decode cX3_readNumber 23 = .ok (.getfield 110, 3) := by decide +kernel
theorem dX3_readNumber_26 : decode cX3_readNumber 26 = .ok (.istore 4, 2) := by decide +kernel
theorem dX3_readNumber_28 : decode cX3_readNumber 28 = .ok (.iload 4, 2) := by decide +kernel
theorem dX3_readNumber_30 : decode cX3_readNumber 30 = .ok (.aload_n 0, 1) := by decide +kernel
theorem dX3_readNumber_31 : decode cX3_readNumber 31 = .ok (.getfield 32, 3) := by decide +kernel
theorem dX3_readNumber_34 : decode cX3_readNumber 34 = .ok (.if_icmp .ge 24, 3) := by decide +kernel
theorem dX3_readNumber_37 : decode cX3_readNumber 37 = .ok (.bipush 10, 2) := by decide +kernel
theorem dX3_readNumber_39 : decode cX3_readNumber 39 = .ok (.iload_n 3, 1) := by decide +kernel
theorem dX3_readNumber_40 : decode cX3_readNumber 40 = .ok (.imul, 1) := by decide +kernel
theorem dX3_readNumber_41 : decode cX3_readNumber 41 = .ok (.aload_n 0, 1) := by decide +kernel
theorem dX3_readNumber_42 : decode cX3_readNumber 42 = .ok (.iload 4, 2) := by decide +kernel
theorem dX3_readNumber_44 : decode cX3_readNumber 44 = .ok (.invokevirtual 113, 3) := by decide +kernel
theorem dX3_readNumber_47 : decode cX3_readNumber 47 = .ok (.iadd, 1) := by decide +kernel
theorem dX3_readNumber_48 : decode cX3_readNumber 48 = .ok (.bipush 48, 2) := by decide +kernel
theorem dX3_readNumber_50 : decode cX3_readNumber 50 = .ok (.isub, 1) := by decide +kernel
theorem dX3_readNumber_51 : decode cX3_readNumber 51 = .ok (.istore_n 3, 1) := by decide +kernel
theorem dX3_readNumber_52 : decode cX3_readNumber 52 = .ok (.iinc 4 1, 3) := by decide +kernel
theorem dX3_readNumber_55 : decode cX3_readNumber 55 = .ok (.goto (-27), 3) := by decide +kernel
theorem dX3_readNumber_58 : decode cX3_readNumber 58 = .ok (.iload_n 3, 1) := by decide +kernel
theorem dX3_readNumber_59 : decode cX3_readNumber 59 = .ok (.iload_n 1, 1) := by decide +kernel
theorem dX3_readNumber_60 : decode cX3_readNumber 60 = .ok (.if_icmp .lt 8, 3) := by decide +kernel
theorem dX3_readNumber_63 : decode cX3_readNumber 63 = .ok (.iload_n 3, 1) := by decide +kernel
theorem dX3_readNumber_64 : decode cX3_readNumber 64 = .ok (.iload_n 2, 1) := by decide +kernel
theorem dX3_readNumber_65 : decode cX3_readNumber 65 = .ok (.if_icmp .le 11, 3) := by decide +kernel
theorem dX3_readNumber_68 : decode cX3_readNumber 68 = .ok (.aload_n 0, 1) := by decide +kernel
theorem dX3_readNumber_69 : decode cX3_readNumber 69 = .ok (.iconst 3, 1) := by decide +kernel
theorem dX3_readNumber_70 : decode cX3_readNumber 70 = .ok (.invokevirtual 63, 3) := by decide +kernel
theorem dX3_readNumber_73 : decode cX3_readNumber 73 = .ok (.pop, 1) := by decide +kernel
theorem dX3_readNumber_74 : decode cX3_readNumber 74 = .ok (.iconst (-1), 1) := by decide +kernel
theorem dX3_readNumber_75 : decode cX3_readNumber 75 = .ok (.ireturn, 1) := by decide +kernel
theorem dX3_readNumber_76 : decode cX3_readNumber 76 = .ok (.iload_n 3, 1) := by decide +kernel
theorem dX3_readNumber_77 : decode cX3_readNumber 77 = .ok (.ireturn, 1) := by decide +kernel
theorem dX3_fail_0 : decode cX3_fail 0 = .ok (.aload_n 0, 1) := by decide +kernel
theorem dX3_fail_1 : decode cX3_fail 1 = .ok (.iload_n 1, 1) := by decide +kernel
theorem dX3_fail_2 : decode cX3_fail 2 = .ok (.putfield 38, 3) := by decide +kernel
theorem dX3_fail_5 : decode cX3_fail 5 = .ok (.aload_n 0, 1) := by decide +kernel
theorem dX3_fail_6 : decode cX3_fail 6 = .ok (.aload_n 0, 1) := by decide +kernel
theorem dX3_fail_7 : decode cX3_fail 7 = .ok (.getfield 110, 3) := by decide +kernel
theorem dX3_fail_10 : decode cX3_fail 10 = .ok (.putfield 15, 3) := by decide +kernel
theorem dX3_fail_13 : decode cX3_fail 13 = .ok (.iconst 0, 1) := by decide +kernel
theorem dX3_fail_14 : decode cX3_fail 14 = .ok (.ireturn, 1) := by decide +kernel
theorem dX3_protocolOfWord_0 : decode cX3_protocolOfWord 0 = .ok (.aload_n 0, 1) := by decide +kernel
theorem dX3_protocolOfWord_1 : decode cX3_protocolOfWord 1 = .ok (.ldc 117, 2) := by decide +kernel
theorem dX3_protocolOfWord_3 : decode cX3_protocolOfWord 3 = .ok (.invokevirtual 59, 3) := by decide +kernel
theorem dX3_protocolOfWord_6 : decode cX3_protocolOfWord 6 = .ok (.ifCond .eq 5, 3) := by decide +kernel
theorem dX3_protocolOfWord_9 : decode cX3_protocolOfWord 9 = .ok (.iconst 0, 1) := by decide +kernel
theorem dX3_protocolOfWord_10 : decode cX3_protocolOfWord 10 = .ok (.ireturn, 1) := by decide +kernel
theorem dX3_protocolOfWord_11 : decode cX3_protocolOfWord 11 = .ok (.aload_n 0, 1) := by decide +kernel
theorem dX3_protocolOfWord_12 : decode cX3_protocolOfWord 12 = .ok (.ldc 119, 2) := by decide +kernel
theorem dX3_protocolOfWord_14 : decode cX3_protocolOfWord 14 = .ok (.invokevirtual 59, 3) := by decide +kernel
theorem dX3_protocolOfWord_17 : decode cX3_protocolOfWord 17 = .ok (.ifCond .eq 5, 3) := by decide +kernel
theorem dX3_protocolOfWord_20 : decode cX3_protocolOfWord 20 = .ok (.iconst 1, 1) := by decide +kernel
theorem dX3_protocolOfWord_21 : decode cX3_protocolOfWord 21 = .ok (.ireturn, 1) := by decide +kernel
theorem dX3_protocolOfWord_22 : decode cX3_protocolOfWord 22 = .ok (.aload_n 0, 1) := by decide +kernel
theorem dX3_protocolOfWord_23 : decode cX3_protocolOfWord 23 = .ok (.ldc 121, 2) := by decide +kernel
theorem dX3_protocolOfWord_25 : decode cX3_protocolOfWord 25 = .ok (.invokevirtual 59, 3) := by decide +kernel
theorem dX3_protocolOfWord_28 : decode cX3_protocolOfWord 28 = .ok (.ifCond .eq 7, 3) := by decide +kernel
theorem dX3_protocolOfWord_31 : decode cX3_protocolOfWord 31 = .ok (.iconst 2, 1) := by decide +kernel
theorem dX3_protocolOfWord_32 : decode cX3_protocolOfWord 32 = .ok (.goto 4, 3) := by decide +kernel
theorem dX3_protocolOfWord_35 : decode cX3_protocolOfWord 35 = .ok (.iconst (-1), 1) := by decide +kernel
theorem dX3_protocolOfWord_36 : decode cX3_protocolOfWord 36 = .ok (.ireturn, 1) := by decide +kernel
theorem dX3_settingOfWord_0 : decode cX3_settingOfWord 0 = .ok (.aload_n 0, 1) := by decide +kernel
theorem dX3_settingOfWord_1 : decode cX3_settingOfWord 1 = .ok (.ldc 123, 2) := by decide +kernel
theorem dX3_settingOfWord_3 : decode cX3_settingOfWord 3 = .ok (.invokevirtual 59, 3) := by decide +kernel
theorem dX3_settingOfWord_6 : decode cX3_settingOfWord 6 = .ok (.ifCond .eq 5, 3) := by decide +kernel
theorem dX3_settingOfWord_9 : decode cX3_settingOfWord 9 = .ok (.iconst 3, 1) := by decide +kernel
theorem dX3_settingOfWord_10 : decode cX3_settingOfWord 10 = .ok (.ireturn, 1) := by decide +kernel
theorem dX3_settingOfWord_11 : decode cX3_settingOfWord 11 = .ok (.aload_n 0, 1) := by decide +kernel
theorem dX3_settingOfWord_12 : decode cX3_settingOfWord 12 = .ok (.ldc 125, 2) := by decide +kernel
theorem dX3_settingOfWord_14 : decode cX3_settingOfWord 14 = .ok (.invokevirtual 59, 3) := by decide +kernel
theorem dX3_settingOfWord_17 : decode cX3_settingOfWord 17 = .ok (.ifCond .eq 5, 3) := by decide +kernel
theorem dX3_settingOfWord_20 : decode cX3_settingOfWord 20 = .ok (.iconst 4, 1) := by decide +kernel
theorem dX3_settingOfWord_21 : decode cX3_settingOfWord 21 = .ok (.ireturn, 1) := by decide +kernel
theorem dX3_settingOfWord_22 : decode cX3_settingOfWord 22 = .ok (.aload_n 0, 1) := by decide +kernel
theorem dX3_settingOfWord_23 : decode cX3_settingOfWord 23 = .ok (.ldc 127, 2) := by decide +kernel
theorem dX3_settingOfWord_25 : decode cX3_settingOfWord 25 = .ok (.invokevirtual 59, 3) := by decide +kernel
theorem dX3_settingOfWord_28 : decode cX3_settingOfWord 28 = .ok (.ifCond .eq 5, 3) := by decide +kernel
theorem dX3_settingOfWord_31 : decode cX3_settingOfWord 31 = .ok (.iconst 5, 1) := by decide +kernel
theorem dX3_settingOfWord_32 : decode cX3_settingOfWord 32 = .ok (.ireturn, 1) := by decide +kernel
theorem dX3_settingOfWord_33 : decode cX3_settingOfWord 33 = .ok (.aload_n 0, 1) := by decide +kernel
theorem dX3_settingOfWord_34 : decode cX3_settingOfWord 34 = .ok (.ldc 129, 2) := by decide +kernel
theorem dX3_settingOfWord_36 : decode cX3_settingOfWord 36 = .ok (.invokevirtual 59, 3) := by decide +kernel
theorem dX3_settingOfWord_39 : decode cX3_settingOfWord 39 = .ok (.ifCond .eq 8, 3) := by decide +kernel
theorem dX3_settingOfWord_42 : decode cX3_settingOfWord 42 = .ok (.bipush 7, 2) := by decide +kernel
theorem dX3_settingOfWord_44 : decode cX3_settingOfWord 44 = .ok (.goto 4, 3) := by decide +kernel
theorem dX3_settingOfWord_47 : decode cX3_settingOfWord 47 = .ok (.iconst (-1), 1) := by decide +kernel
theorem dX3_settingOfWord_48 : decode cX3_settingOfWord 48 = .ok (.ireturn, 1) := by decide +kernel
theorem dX3_kindOfWord_0 : decode cX3_kindOfWord 0 = .ok (.aload_n 0, 1) := by decide +kernel
theorem dX3_kindOfWord_1 : decode cX3_kindOfWord 1 = .ok (.ldc 131, 2) := by decide +kernel
theorem dX3_kindOfWord_3 : decode cX3_kindOfWord 3 = .ok (.invokevirtual 59, 3) := by decide +kernel
theorem dX3_kindOfWord_6 : decode cX3_kindOfWord 6 = .ok (.ifCond .eq 5, 3) := by decide +kernel
theorem dX3_kindOfWord_9 : decode cX3_kindOfWord 9 = .ok (.iconst 0, 1) := by decide +kernel
theorem dX3_kindOfWord_10 : decode cX3_kindOfWord 10 = .ok (.ireturn, 1) := by decide +kernel
theorem dX3_kindOfWord_11 : decode cX3_kindOfWord 11 = .ok (.aload_n 0, 1) := by decide +kernel
theorem dX3_kindOfWord_12 : decode cX3_kindOfWord 12 = .ok (.ldc 133, 2) := by decide +kernel
theorem dX3_kindOfWord_14 : decode cX3_kindOfWord 14 = .ok (.invokevirtual 59, 3) := by decide +kernel
theorem dX3_kindOfWord_17 : decode cX3_kindOfWord 17 = .ok (.ifCond .eq 5, 3) := by decide +kernel
theorem dX3_kindOfWord_20 : decode cX3_kindOfWord 20 = .ok (.iconst 1, 1) := by decide +kernel
theorem dX3_kindOfWord_21 : decode cX3_kindOfWord 21 = .ok (.ireturn, 1) := by decide +kernel
theorem dX3_kindOfWord_22 : decode cX3_kindOfWord 22 = .ok (.aload_n 0, 1) := by decide +kernel
theorem dX3_kindOfWord_23 : decode cX3_kindOfWord 23 = .ok (.ldc 135, 2) := by decide +kernel
theorem dX3_kindOfWord_25 : decode cX3_kindOfWord 25 = .ok (.invokevirtual 59, 3) := by decide +kernel
theorem dX3_kindOfWord_28 : decode cX3_kindOfWord 28 = .ok (.ifCond .eq 7, 3) := by decide +kernel
theorem dX3_kindOfWord_31 : decode cX3_kindOfWord 31 = .ok (.iconst 2, 1) := by decide +kernel
theorem dX3_kindOfWord_32 : decode cX3_kindOfWord 32 = .ok (.goto 4, 3) := by decide +kernel
theorem dX3_kindOfWord_35 : decode cX3_kindOfWord 35 = .ok (.iconst (-1), 1) := by decide +kernel
theorem dX3_kindOfWord_36 : decode cX3_kindOfWord 36 = .ok (.ireturn, 1) := by decide +kernel
theorem dX3_isWord_0 : decode cX3_isWord 0 = .ok (.aload_n 0, 1) := by decide +kernel
theorem dX3_isWord_1 : decode cX3_isWord 1 = .ok (.getfield 51, 3) := by decide +kernel
theorem dX3_isWord_4 : decode cX3_isWord 4 = .ok (.iconst 1, 1) := by decide +kernel
theorem dX3_isWord_5 : decode cX3_isWord 5 = .ok (.if_icmp .ne 19, 3) := by decide +kernel
theorem dX3_isWord_8 : decode cX3_isWord 8 = .ok (.aload_n 0, 1) := by decide +kernel
theorem dX3_isWord_9 : decode cX3_isWord 9 = .ok (.getfield 32, 3) := by decide +kernel
theorem dX3_isWord_12 : decode cX3_isWord 12 = .ok (.aload_n 0, 1) := by decide +kernel
theorem dX3_isWord_13 : decode cX3_isWord 13 = .ok (.getfield 110, 3) := by decide +kernel
theorem dX3_isWord_16 : decode cX3_isWord 16 = .ok (.isub, 1) := by decide +kernel
theorem dX3_isWord_17 : decode cX3_isWord 17 = .ok (.aload_n 1, 1) := by decide +kernel
theorem dX3_isWord_18 : decode cX3_isWord 18 = .ok (.invokevirtual 137, 3) := by decide +kernel
theorem dX3_isWord_21 : decode cX3_isWord 21 = .ok (.if_icmp .eq 5, 3) := by decide +kernel
theorem dX3_isWord_24 : decode cX3_isWord 24 = .ok (.iconst 0, 1) := by decide +kernel
theorem dX3_isWord_25 : decode cX3_isWord 25 = .ok (.ireturn, 1) := by decide +kernel
theorem dX3_isWord_26 : decode cX3_isWord 26 = .ok (.iconst 0, 1) := by decide +kernel
theorem dX3_isWord_27 : decode cX3_isWord 27 = .ok (.istore_n 2, 1) := by decide +kernel
theorem dX3_isWord_28 : decode cX3_isWord 28 = .ok (.iload_n 2, 1) := by decide +kernel
theorem dX3_isWord_29 : decode cX3_isWord 29 = .ok (.aload_n 1, 1) := by decide +kernel
theorem dX3_isWord_30 : decode cX3_isWord 30 = .ok (.invokevirtual 137, 3) := by decide +kernel
theorem dX3_isWord_33 : decode cX3_isWord 33 = .ok (.if_icmp .ge 29, 3) := by decide +kernel
theorem dX3_isWord_36 : decode cX3_isWord 36 = .ok (.aload_n 0, 1) := by decide +kernel
theorem dX3_isWord_37 : decode cX3_isWord 37 = .ok (.aload_n 0, 1) := by decide +kernel
theorem dX3_isWord_38 : decode cX3_isWord 38 = .ok (.getfield 110, 3) := by decide +kernel
theorem dX3_isWord_41 : decode cX3_isWord 41 = .ok (.iload_n 2, 1) := by decide +kernel
theorem dX3_isWord_42 : decode cX3_isWord 42 = .ok (.iadd, 1) := by decide +kernel
theorem dX3_isWord_43 : decode cX3_isWord 43 = .ok (.invokevirtual 113, 3) := by decide +kernel
theorem dX3_isWord_46 : decode cX3_isWord 46 = .ok (.aload_n 1, 1) := by decide +kernel
theorem dX3_isWord_47 : decode cX3_isWord 47 = .ok (.iload_n 2, 1) := by decide +kernel
theorem dX3_isWord_48 : decode cX3_isWord 48 = .ok (.invokevirtual 142, 3) := by decide +kernel
theorem dX3_isWord_51 : decode cX3_isWord 51 = .ok (.if_icmp .eq 5, 3) := by decide +kernel
theorem dX3_isWord_54 : decode cX3_isWord 54 = .ok (.iconst 0, 1) := by decide +kernel
theorem dX3_isWord_55 : decode cX3_isWord 55 = .ok (.ireturn, 1) := by decide +kernel
theorem dX3_isWord_56 : decode cX3_isWord 56 = .ok (.iinc 2 1, 3) := by decide +kernel
theorem dX3_isWord_59 : decode cX3_isWord 59 = .ok (.goto (-31), 3) := by decide +kernel
theorem dX3_isWord_62 : decode cX3_isWord 62 = .ok (.iconst 1, 1) := by decide +kernel
theorem dX3_isWord_63 : decode cX3_isWord 63 = .ok (.ireturn, 1) := by decide +kernel
theorem dX3_byteAt_0 : decode cX3_byteAt 0 = .ok (.iload_n 1, 1) := by decide +kernel
theorem dX3_byteAt_1 : decode cX3_byteAt 1 = .ok (.ifCond .lt 27, 3) := by decide +kernel
theorem dX3_byteAt_4 : decode cX3_byteAt 4 = .ok (.iload_n 1, 1) := by decide +kernel
theorem dX3_byteAt_5 : decode cX3_byteAt 5 = .ok (.aload_n 0, 1) := by decide +kernel
theorem dX3_byteAt_6 : decode cX3_byteAt 6 = .ok (.getfield 29, 3) := by decide +kernel
theorem dX3_byteAt_9 : decode cX3_byteAt 9 = .ok (.if_icmp .ge 19, 3) := by decide +kernel
theorem dX3_byteAt_12 : decode cX3_byteAt 12 = .ok (.iload_n 1, 1) := by decide +kernel
theorem dX3_byteAt_13 : decode cX3_byteAt 13 = .ok (.sipush 500, 3) := by decide +kernel
theorem dX3_byteAt_16 : decode cX3_byteAt 16 = .ok (.if_icmp .ge 12, 3) := by decide +kernel
theorem dX3_byteAt_19 : decode cX3_byteAt 19 = .ok (.aload_n 0, 1) := by decide +kernel
theorem dX3_byteAt_20 : decode cX3_byteAt 20 = .ok (.getfield 9, 3) := by decide +kernel
theorem dX3_byteAt_23 : decode cX3_byteAt 23 = .ok (.iload_n 1, 1) := by decide +kernel
theorem dX3_byteAt_24 : decode cX3_byteAt 24 = .ok (.iaload, 1) := by decide +kernel
theorem dX3_byteAt_25 : decode cX3_byteAt 25 = .ok (.goto 4, 3) := by decide +kernel
theorem dX3_byteAt_28 : decode cX3_byteAt 28 = .ok (.iconst (-1), 1) := by decide +kernel
theorem dX3_byteAt_29 : decode cX3_byteAt 29 = .ok (.ireturn, 1) := by decide +kernel
theorem dX3_advance_0 : decode cX3_advance 0 = .ok (.aload_n 0, 1) := by decide +kernel
theorem dX3_advance_1 : decode cX3_advance 1 = .ok (.getfield 32, 3) := by decide +kernel
theorem dX3_advance_4 : decode cX3_advance 4 = .ok (.aload_n 0, 1) := by decide +kernel
theorem dX3_advance_5 : decode cX3_advance 5 = .ok (.getfield 29, 3) := by decide +kernel
theorem dX3_advance_8 : decode cX3_advance 8 = .ok (.if_icmp .ge 30, 3) := by decide +kernel
theorem dX3_advance_11 : decode cX3_advance 11 = .ok (.aload_n 0, 1) := by decide +kernel
theorem dX3_advance_12 : decode cX3_advance 12 = .ok (.aload_n 0, 1) := by decide +kernel
theorem dX3_advance_13 : decode cX3_advance 13 = .ok (.getfield 32, 3) := by decide +kernel
theorem dX3_advance_16 : decode cX3_advance 16 = .ok (.invokevirtual 113, 3) := by decide +kernel
theorem dX3_advance_19 : decode cX3_advance 19 = .ok (.invokestatic 146, 3) := by decide +kernel
theorem dX3_advance_22 : decode cX3_advance 22 = .ok (.ifCond .eq 16, 3) := by decide +kernel
theorem dX3_advance_25 : decode cX3_advance 25 = .ok (.aload_n 0, 1) := by decide +kernel
theorem dX3_advance_26 : decode cX3_advance 26 = .ok (.dup, 1) := by decide +kernel
theorem dX3_advance_27 : decode cX3_advance 27 = .ok (.getfield 32, 3) := by decide +kernel
theorem dX3_advance_30 : decode cX3_advance 30 = .ok (.iconst 1, 1) := by decide +kernel
theorem dX3_advance_31 : decode cX3_advance 31 = .ok (.iadd, 1) := by decide +kernel
theorem dX3_advance_32 : decode cX3_advance 32 = .ok (.putfield 32, 3) := by decide +kernel
theorem dX3_advance_35 : decode cX3_advance 35 = .ok (.goto (-35), 3) := by decide +kernel
theorem dX3_advance_38 : decode cX3_advance 38 = .ok (.aload_n 0, 1) := by decide +kernel
theorem dX3_advance_39 : decode cX3_advance 39 = .ok (.aload_n 0, 1) := by decide +kernel
theorem dX3_advance_40 : decode cX3_advance 40 = .ok (.getfield 32, 3) := by decide +kernel
theorem dX3_advance_43 : decode cX3_advance 43 = .ok (.putfield 110, 3) := by decide +kernel
theorem dX3_advance_46 : decode cX3_advance 46 = .ok (.aload_n 0, 1) := by decide +kernel
theorem dX3_advance_47 : decode cX3_advance 47 = .ok (.getfield 32, 3) := by decide +kernel
theorem dX3_advance_50 : decode cX3_advance 50 = .ok (.aload_n 0, 1) := by decide +kernel
theorem dX3_advance_51 : decode cX3_advance 51 = .ok (.getfield 29, 3) := by decide +kernel
theorem dX3_advance_54 : decode cX3_advance 54 = .ok (.if_icmp .lt 9, 3) := by decide +kernel
theorem dX3_advance_57 : decode cX3_advance 57 = .ok (.aload_n 0, 1) := by decide +kernel
theorem dX3_advance_58 : decode cX3_advance 58 = .ok (.iconst 0, 1) := by decide +kernel
theorem dX3_advance_59 : decode cX3_advance 59 = .ok (.putfield 51, 3) := by decide +kernel
theorem dX3_advance_62 : decode cX3_advance 62 = .ok (.return_, 1) := by decide +kernel
theorem dX3_advance_63 : decode cX3_advance 63 = .ok (.aload_n 0, 1) := by decide +kernel
theorem dX3_advance_64 : decode cX3_advance 64 = .ok (.aload_n 0, 1) := by decide +kernel
theorem dX3_advance_65 : decode cX3_advance 65 = .ok (.getfield 32, 3) := by decide +kernel
theorem dX3_advance_68 : decode cX3_advance 68 = .ok (.invokevirtual 113, 3) := by decide +kernel
theorem dX3_advance_71 : decode cX3_advance 71 = .ok (.istore_n 1, 1) := by decide +kernel
theorem dX3_advance_72 : decode cX3_advance 72 = .ok (.aload_n 0, 1) := by decide +kernel
theorem dX3_advance_73 : decode cX3_advance 73 = .ok (.dup, 1) := by decide +kernel
theorem dX3_advance_74 : decode cX3_advance 74 = .ok (.getfield 32, 3) := by decide +kernel
theorem dX3_advance_77 : decode cX3_advance 77 = .ok (.iconst 1, 1) := by decide +kernel
theorem dX3_advance_78 : decode cX3_advance 78 = .ok (.iadd, 1) := by decide +kernel
theorem dX3_advance_79 : decode cX3_advance 79 = .ok (.putfield 32, 3) := by decide +kernel
theorem dX3_advance_82 : decode cX3_advance 82 = .ok (.iload_n 1, 1) := by decide +kernel
theorem dX3_advance_83 : decode cX3_advance 83 = .ok (.invokestatic 149, 3) := by decide +kernel
theorem dX3_advance_86 : decode cX3_advance 86 = .ok (.ifCond .eq 67, 3) := by decide +kernel
theorem dX3_advance_89 : decode cX3_advance 89 = .ok (.aload_n 0, 1) := by decide +kernel
theorem dX3_advance_90 : decode cX3_advance 90 = .ok (.getfield 32, 3) := by decide +kernel
theorem dX3_advance_93 : decode cX3_advance 93 = .ok (.aload_n 0, 1) := by decide +kernel
theorem dX3_advance_94 : decode cX3_advance 94 = .ok (.getfield 29, 3) := by decide +kernel
theorem dX3_advance_97 : decode cX3_advance 97 = .ok (.if_icmp .ge 30, 3) := by decide +kernel
theorem dX3_advance_100 : decode cX3_advance 100 = .ok (.aload_n 0, 1) := by decide +kernel
theorem dX3_advance_101 : decode cX3_advance 101 = .ok (.aload_n 0, 1) := by decide +kernel
theorem dX3_advance_102 : decode cX3_advance 102 = .ok (.getfield 32, 3) := by decide +kernel
theorem dX3_advance_105 : decode cX3_advance 105 = .ok (.invokevirtual 113, 3) := by decide +kernel
theorem dX3_advance_108 : decode cX3_advance 108 = .ok (.invokestatic 149, 3) := by decide +kernel
theorem dX3_advance_111 : decode cX3_advance 111 = .ok (.ifCond .eq 16, 3) := by decide +kernel
theorem dX3_advance_114 : decode cX3_advance 114 = .ok (.aload_n 0, 1) := by decide +kernel
theorem dX3_advance_115 : decode cX3_advance 115 = .ok (.dup, 1) := by decide +kernel
theorem dX3_advance_116 : decode cX3_advance 116 = .ok (.getfield 32, 3) := by decide +kernel
theorem dX3_advance_119 : decode cX3_advance 119 = .ok (.iconst 1, 1) := by decide +kernel
theorem dX3_advance_120 : decode cX3_advance 120 = .ok (.iadd, 1) := by decide +kernel
theorem dX3_advance_121 : decode cX3_advance 121 = .ok (.putfield 32, 3) := by decide +kernel
theorem dX3_advance_124 : decode cX3_advance 124 = .ok (.goto (-35), 3) := by decide +kernel
theorem dX3_advance_127 : decode cX3_advance 127 = .ok (.aload_n 0, 1) := by decide +kernel
theorem dX3_advance_128 : decode cX3_advance 128 = .ok (.aload_n 0, 1) := by decide +kernel
theorem dX3_advance_129 : decode cX3_advance 129 = .ok (.getfield 32, 3) := by decide +kernel
theorem dX3_advance_132 : decode cX3_advance 132 = .ok (.aload_n 0, 1) := by decide +kernel
theorem dX3_advance_133 : decode cX3_advance 133 = .ok (.getfield 110, 3) := by decide +kernel
theorem dX3_advance_136 : decode cX3_advance 136 = .ok (.isub, 1) := by decide +kernel
theorem dX3_advance_137 : decode cX3_advance 137 = .ok (.bipush 9, 2) := by decide +kernel
theorem dX3_advance_139 : decode cX3_advance 139 = .ok (.if_icmp .gt 7, 3) := by decide +kernel
theorem dX3_advance_142 : decode cX3_advance 142 = .ok (.iconst 1, 1) := by decide +kernel
theorem dX3_advance_143 : decode cX3_advance 143 = .ok (.goto 4, 3) := by decide +kernel
theorem dX3_advance_146 : decode cX3_advance 146 = .ok (.iconst 4, 1) := by decide +kernel
theorem dX3_advance_147 : decode cX3_advance 147 = .ok (.putfield 51, 3) := by decide +kernel
theorem dX3_advance_150 : decode cX3_advance 150 = .ok (.goto 88, 3) := by decide +kernel
theorem dX3_advance_153 : decode cX3_advance 153 = .ok (.iload_n 1, 1) := by decide +kernel
theorem dX3_advance_154 : decode cX3_advance 154 = .ok (.invokestatic 152, 3) := by decide +kernel
theorem dX3_advance_157 : decode cX3_advance 157 = .ok (.ifCond .eq 66, 3) := by decide +kernel
theorem dX3_advance_160 : decode cX3_advance 160 = .ok (.aload_n 0, 1) := by decide +kernel
theorem dX3_advance_161 : decode cX3_advance 161 = .ok (.getfield 32, 3) := by decide +kernel
theorem dX3_advance_164 : decode cX3_advance 164 = .ok (.aload_n 0, 1) := by decide +kernel
theorem dX3_advance_165 : decode cX3_advance 165 = .ok (.getfield 29, 3) := by decide +kernel
theorem dX3_advance_168 : decode cX3_advance 168 = .ok (.if_icmp .ge 30, 3) := by decide +kernel
theorem dX3_advance_171 : decode cX3_advance 171 = .ok (.aload_n 0, 1) := by decide +kernel
theorem dX3_advance_172 : decode cX3_advance 172 = .ok (.aload_n 0, 1) := by decide +kernel
theorem dX3_advance_173 : decode cX3_advance 173 = .ok (.getfield 32, 3) := by decide +kernel
theorem dX3_advance_176 : decode cX3_advance 176 = .ok (.invokevirtual 113, 3) := by decide +kernel
theorem dX3_advance_179 : decode cX3_advance 179 = .ok (.invokestatic 152, 3) := by decide +kernel
theorem dX3_advance_182 : decode cX3_advance 182 = .ok (.ifCond .eq 16, 3) := by decide +kernel
theorem dX3_advance_185 : decode cX3_advance 185 = .ok (.aload_n 0, 1) := by decide +kernel
theorem dX3_advance_186 : decode cX3_advance 186 = .ok (.dup, 1) := by decide +kernel
theorem dX3_advance_187 : decode cX3_advance 187 = .ok (.getfield 32, 3) := by decide +kernel
theorem dX3_advance_190 : decode cX3_advance 190 = .ok (.iconst 1, 1) := by decide +kernel
theorem dX3_advance_191 : decode cX3_advance 191 = .ok (.iadd, 1) := by decide +kernel
theorem dX3_advance_192 : decode cX3_advance 192 = .ok (.putfield 32, 3) := by decide +kernel
theorem dX3_advance_195 : decode cX3_advance 195 = .ok (.goto (-35), 3) := by decide +kernel
theorem dX3_advance_198 : decode cX3_advance 198 = .ok (.aload_n 0, 1) := by decide +kernel
theorem dX3_advance_199 : decode cX3_advance 199 = .ok (.aload_n 0, 1) := by decide +kernel
theorem dX3_advance_200 : decode cX3_advance 200 = .ok (.getfield 32, 3) := by decide +kernel
theorem dX3_advance_203 : decode cX3_advance 203 = .ok (.aload_n 0, 1) := by decide +kernel
theorem dX3_advance_204 : decode cX3_advance 204 = .ok (.getfield 110, 3) := by decide +kernel
theorem dX3_advance_207 : decode cX3_advance 207 = .ok (.isub, 1) := by decide +kernel
theorem dX3_advance_208 : decode cX3_advance 208 = .ok (.iconst 3, 1) := by decide +kernel
theorem dX3_advance_209 : decode cX3_advance 209 = .ok (.if_icmp .gt 7, 3) := by decide +kernel
theorem dX3_advance_212 : decode cX3_advance 212 = .ok (.iconst 2, 1) := by decide +kernel
theorem dX3_advance_213 : decode cX3_advance 213 = .ok (.goto 4, 3) := by decide +kernel
theorem dX3_advance_216 : decode cX3_advance 216 = .ok (.iconst 4, 1) := by decide +kernel
theorem dX3_advance_217 : decode cX3_advance 217 = .ok (.putfield 51, 3) := by decide +kernel
theorem dX3_advance_220 : decode cX3_advance 220 = .ok (.goto 18, 3) := by decide +kernel
theorem dX3_advance_223 : decode cX3_advance 223 = .ok (.aload_n 0, 1) := by decide +kernel
theorem dX3_advance_224 : decode cX3_advance 224 = .ok (.iload_n 1, 1) := by decide +kernel
theorem dX3_advance_225 : decode cX3_advance 225 = .ok (.bipush 59, 2) := by decide +kernel
theorem dX3_advance_227 : decode cX3_advance 227 = .ok (.if_icmp .ne 7, 3) := by decide +kernel
theorem dX3_advance_230 : decode cX3_advance 230 = .ok (.iconst 3, 1) := by decide +kernel
theorem dX3_advance_231 : decode cX3_advance 231 = .ok (.goto 4, 3) := by decide +kernel
theorem dX3_advance_234 : decode cX3_advance 234 = .ok (.iconst 4, 1) := by decide +kernel
theorem dX3_advance_235 : decode cX3_advance 235 = .ok (.putfield 51, 3) := by decide +kernel
theorem dX3_advance_238 : decode cX3_advance 238 = .ok (.return_, 1) := by decide +kernel
theorem dX3_isGap_0 : decode cX3_isGap 0 = .ok (.iload_n 0, 1) := by decide +kernel
theorem dX3_isGap_1 : decode cX3_isGap 1 = .ok (.bipush 32, 2) := by decide +kernel
theorem dX3_isGap_3 : decode cX3_isGap 3 = .ok (.if_icmp .eq 9, 3) := by decide +kernel
theorem dX3_isGap_6 : decode cX3_isGap 6 = .ok (.iload_n 0, 1) := by decide +kernel
theorem dX3_isGap_7 : decode cX3_isGap 7 = .ok (.bipush 10, 2) := by decide +kernel
theorem dX3_isGap_9 : decode cX3_isGap 9 = .ok (.if_icmp .ne 7, 3) := by decide +kernel
theorem dX3_isGap_12 : decode cX3_isGap 12 = .ok (.iconst 1, 1) := by decide +kernel
theorem dX3_isGap_13 : decode cX3_isGap 13 = .ok (.goto 4, 3) := by decide +kernel
theorem dX3_isGap_16 : decode cX3_isGap 16 = .ok (.iconst 0, 1) := by decide +kernel
theorem dX3_isGap_17 : decode cX3_isGap 17 = .ok (.ireturn, 1) := by decide +kernel
theorem dX3_isLetter_0 : decode cX3_isLetter 0 = .ok (.iload_n 0, 1) := by decide +kernel
theorem dX3_isLetter_1 : decode cX3_isLetter 1 = .ok (.bipush 97, 2) := by decide +kernel
theorem dX3_isLetter_3 : decode cX3_isLetter 3 = .ok (.if_icmp .lt 13, 3) := by decide +kernel
theorem dX3_isLetter_6 : decode cX3_isLetter 6 = .ok (.iload_n 0, 1) := by decide +kernel
theorem dX3_isLetter_7 : decode cX3_isLetter 7 = .ok (.bipush 122, 2) := by decide +kernel
theorem dX3_isLetter_9 : decode cX3_isLetter 9 = .ok (.if_icmp .gt 7, 3) := by decide +kernel
theorem dX3_isLetter_12 : decode cX3_isLetter 12 = .ok (.iconst 1, 1) := by decide +kernel
theorem dX3_isLetter_13 : decode cX3_isLetter 13 = .ok (.goto 4, 3) := by decide +kernel
theorem dX3_isLetter_16 : decode cX3_isLetter 16 = .ok (.iconst 0, 1) := by decide +kernel
theorem dX3_isLetter_17 : decode cX3_isLetter 17 = .ok (.ireturn, 1) := by decide +kernel
theorem dX3_isDigit_0 : decode cX3_isDigit 0 = .ok (.iload_n 0, 1) := by decide +kernel
theorem dX3_isDigit_1 : decode cX3_isDigit 1 = .ok (.bipush 48, 2) := by decide +kernel
theorem dX3_isDigit_3 : decode cX3_isDigit 3 = .ok (.if_icmp .lt 13, 3) := by decide +kernel
theorem dX3_isDigit_6 : decode cX3_isDigit 6 = .ok (.iload_n 0, 1) := by decide +kernel
theorem dX3_isDigit_7 : decode cX3_isDigit 7 = .ok (.bipush 57, 2) := by decide +kernel
theorem dX3_isDigit_9 : decode cX3_isDigit 9 = .ok (.if_icmp .gt 7, 3) := by decide +kernel
theorem dX3_isDigit_12 : decode cX3_isDigit 12 = .ok (.iconst 1, 1) := by decide +kernel
theorem dX3_isDigit_13 : decode cX3_isDigit 13 = .ok (.goto 4, 3) := by decide +kernel
theorem dX3_isDigit_16 : decode cX3_isDigit 16 = .ok (.iconst 0, 1) := by decide +kernel
theorem dX3_isDigit_17 : decode cX3_isDigit 17 = .ok (.ireturn, 1) := by decide +kernel
theorem dX4_init_0 : decode cX4_init 0 = .ok (.aload_n 0, 1) := by decide +kernel
theorem dX4_init_1 : decode cX4_init 1 = .ok (.invokespecial 3, 3) := by decide +kernel
theorem dX4_init_4 : decode cX4_init 4 = .ok (.aload_n 0, 1) := by decide +kernel
theorem dX4_init_5 : decode cX4_init 5 = .ok (.new 9, 3) := by decide +kernel
theorem dX4_init_8 : decode cX4_init 8 = .ok (.dup, 1) := by decide +kernel
theorem dX4_init_9 : decode cX4_init 9 = .ok (.invokespecial 11, 3) := by decide +kernel
theorem dX4_init_12 : decode cX4_init 12 = .ok (.putfield 12, 3) := by decide +kernel
theorem dX4_init_15 : decode cX4_init 15 = .ok (.aload_n 0, 1) := by decide +kernel
theorem dX4_init_16 : decode cX4_init 16 = .ok (.new 18, 3) := by decide +kernel
theorem dX4_init_19 : decode cX4_init 19 = .ok (.dup, 1) := by decide +kernel
theorem dX4_init_20 : decode cX4_init 20 = .ok (.invokespecial 20, 3) := by decide +kernel
theorem dX4_init_23 : decode cX4_init 23 = .ok (.putfield 21, 3) := by decide +kernel
theorem dX4_init_26 : decode cX4_init 26 = .ok (.aload_n 0, 1) := by decide +kernel
theorem dX4_init_27 : decode cX4_init 27 = .ok (.new 25, 3) := by decide +kernel
theorem dX4_init_30 : decode cX4_init 30 = .ok (.dup, 1) := by decide +kernel
theorem dX4_init_31 : decode cX4_init 31 = .ok (.invokespecial 27, 3) := by decide +kernel
theorem dX4_init_34 : decode cX4_init 34 = .ok (.putfield 28, 3) := by decide +kernel
theorem dX4_init_37 : decode cX4_init 37 = .ok (.aload_n 0, 1) := by decide +kernel
theorem dX4_init_38 : decode cX4_init 38 = .ok (.new 32, 3) := by decide +kernel
theorem dX4_init_41 : decode cX4_init 41 = .ok (.dup, 1) := by decide +kernel
theorem dX4_init_42 : decode cX4_init 42 = .ok (.invokespecial 34, 3) := by decide +kernel
theorem dX4_init_45 : decode cX4_init 45 = .ok (.putfield 35, 3) := by decide +kernel
theorem dX4_init_48 : decode cX4_init 48 = .ok (.return_, 1) := by decide +kernel
theorem dX4_line_0 : decode cX4_line 0 = .ok (.aload_n 0, 1) := by decide +kernel
theorem dX4_line_1 : decode cX4_line 1 = .ok (.getfield 12, 3) := by decide +kernel
theorem dX4_line_4 : decode cX4_line 4 = .ok (.areturn, 1) := by decide +kernel
theorem dX4_deliveries_0 : decode cX4_deliveries 0 = .ok (.aload_n 0, 1) := by decide +kernel
theorem dX4_deliveries_1 : decode cX4_deliveries 1 = .ok (.getfield 21, 3) := by decide +kernel
theorem dX4_deliveries_4 : decode cX4_deliveries 4 = .ok (.areturn, 1) := by decide +kernel
theorem dX4_states_0 : decode cX4_states 0 = .ok (.aload_n 0, 1) := by decide +kernel
theorem dX4_states_1 : decode cX4_states 1 = .ok (.getfield 28, 3) := by decide +kernel
theorem dX4_states_4 : decode cX4_states 4 = .ok (.areturn, 1) := by decide +kernel
theorem dX4_tickCount_0 : decode cX4_tickCount 0 = .ok (.aload_n 0, 1) := by decide +kernel
theorem dX4_tickCount_1 : decode cX4_tickCount 1 = .ok (.getfield 39, 3) := by decide +kernel
theorem dX4_tickCount_4 : decode cX4_tickCount 4 = .ok (.ireturn, 1) := by decide +kernel
theorem dX4_play_0 : decode cX4_play 0 = .ok (.aload_n 0, 1) := by decide +kernel
theorem dX4_play_1 : decode cX4_play 1 = .ok (.aload_n 1, 1) := by decide +kernel
theorem dX4_play_2 : decode cX4_play 2 = .ok (.invokevirtual 43, 3) := by decide +kernel
theorem dX4_play_5 : decode cX4_play 5 = .ok (.aload_n 1, 1) := by decide +kernel
theorem dX4_play_6 : decode cX4_play 6 = .ok (.iconst 2, 1) := by decide +kernel
theorem dX4_play_7 : decode cX4_play 7 = .ok (.invokevirtual 47, 3) := by decide +kernel
theorem dX4_play_10 : decode cX4_play 10 = .ok (.istore_n 2, 1) := by decide +kernel
theorem dX4_play_11 : decode cX4_play 11 = .ok (.iconst 0, 1) := by decide +kernel
theorem dX4_play_12 : decode cX4_play 12 = .ok (.istore_n 3, 1) := by decide +kernel
theorem dX4_play_13 : decode cX4_play 13 = .ok (.iload_n 3, 1) := by decide +kernel
theorem dX4_play_14 : decode cX4_play 14 = .ok (.iload_n 2, 1) := by decide +kernel
theorem dX4_play_15 : decode cX4_play 15 = .ok (.if_icmp .ge 99, 3) := by decide +kernel
theorem dX4_play_18 : decode cX4_play 18 = .ok (.aload_n 0, 1) := by decide +kernel
theorem dX4_play_19 : decode cX4_play 19 = .ok (.iload_n 3, 1) := by decide +kernel
theorem dX4_play_20 : decode cX4_play 20 = .ok (.invokevirtual 51, 3) := by decide +kernel
theorem dX4_play_23 : decode cX4_play 23 = .ok (.aload_n 0, 1) := by decide +kernel
theorem dX4_play_24 : decode cX4_play 24 = .ok (.iload_n 3, 1) := by decide +kernel
theorem dX4_play_25 : decode cX4_play 25 = .ok (.invokevirtual 55, 3) := by decide +kernel
theorem dX4_play_28 : decode cX4_play 28 = .ok (.istore 4, 2) := by decide +kernel
theorem dX4_play_30 : decode cX4_play 30 = .ok (.iload 4, 2) := by decide +kernel
theorem dX4_play_32 : decode cX4_play 32 = .ok (.iconst (-1), 1) := by decide +kernel
theorem dX4_play_33 : decode cX4_play 33 = .ok (.if_icmp .eq 18, 3) := by decide +kernel
theorem dX4_play_36 : decode cX4_play 36 = .ok (.aload_n 0, 1) := by decide +kernel
theorem dX4_play_37 : decode cX4_play 37 = .ok (.getfield 12, 3) := by decide +kernel
theorem dX4_play_40 : decode cX4_play 40 = .ok (.aload_n 0, 1) := by decide +kernel
theorem dX4_play_41 : decode cX4_play 41 = .ok (.getfield 35, 3) := by decide +kernel
theorem dX4_play_44 : decode cX4_play 44 = .ok (.iload_n 3, 1) := by decide +kernel
theorem dX4_play_45 : decode cX4_play 45 = .ok (.iconst 0, 1) := by decide +kernel
theorem dX4_play_46 : decode cX4_play 46 = .ok (.iload 4, 2) := by decide +kernel
theorem dX4_play_48 : decode cX4_play 48 = .ok (.invokevirtual 58, 3) := by decide +kernel
theorem dX4_play_51 : decode cX4_play 51 = .ok (.aload_n 0, 1) := by decide +kernel
theorem dX4_play_52 : decode cX4_play 52 = .ok (.getfield 28, 3) := by decide +kernel
theorem dX4_play_55 : decode cX4_play 55 = .ok (.aload_n 0, 1) := by decide +kernel
theorem dX4_play_56 : decode cX4_play 56 = .ok (.getfield 62, 3) := by decide +kernel
theorem dX4_play_59 : decode cX4_play 59 = .ok (.aload_n 0, 1) := by decide +kernel
theorem dX4_play_60 : decode cX4_play 60 = .ok (.getfield 21, 3) := by decide +kernel
theorem dX4_play_63 : decode cX4_play 63 = .ok (.invokevirtual 65, 3) := by decide +kernel
theorem dX4_play_66 : decode cX4_play 66 = .ok (.bipush 15, 2) := by decide +kernel
theorem dX4_play_68 : decode cX4_play 68 = .ok (.invokestatic 69, 3) := by decide +kernel
theorem dX4_play_71 : decode cX4_play 71 = .ok (.invokevirtual 75, 3) := by decide +kernel
theorem dX4_play_74 : decode cX4_play 74 = .ok (.aload_n 0, 1) := by decide +kernel
theorem dX4_play_75 : decode cX4_play 75 = .ok (.dup, 1) := by decide +kernel
theorem dX4_play_76 : decode cX4_play 76 = .ok (.getfield 39, 3) := by decide +kernel
theorem dX4_play_79 : decode cX4_play 79 = .ok (.iconst 1, 1) := by decide +kernel
theorem dX4_play_80 : decode cX4_play 80 = .ok (.iadd, 1) := by decide +kernel
theorem dX4_play_81 : decode cX4_play 81 = .ok (.putfield 39, 3) := by decide +kernel
theorem dX4_play_84 : decode cX4_play 84 = .ok (.aload_n 0, 1) := by decide +kernel
theorem dX4_play_85 : decode cX4_play 85 = .ok (.getfield 62, 3) := by decide +kernel
theorem dX4_play_88 : decode cX4_play 88 = .ok (.aload_n 0, 1) := by decide +kernel
theorem dX4_play_89 : decode cX4_play 89 = .ok (.getfield 79, 3) := by decide +kernel
theorem dX4_play_92 : decode cX4_play 92 = .ok (.if_icmp .lt 16, 3) := by decide +kernel
theorem dX4_play_95 : decode cX4_play 95 = .ok (.aload_n 0, 1) := by decide +kernel
theorem dX4_play_96 : decode cX4_play 96 = .ok (.getfield 12, 3) := by decide +kernel
theorem dX4_play_99 : decode cX4_play 99 = .ok (.invokevirtual 82, 3) := by decide +kernel
theorem dX4_play_102 : decode cX4_play 102 = .ok (.ifCond .eq 6, 3) := by decide +kernel
theorem dX4_play_105 : decode cX4_play 105 = .ok (.goto 9, 3) := by decide +kernel
theorem dX4_play_108 : decode cX4_play 108 = .ok (.iinc 3 1, 3) := by decide +kernel
theorem dX4_play_111 : decode cX4_play 111 = .ok (.goto (-98), 3) := by decide +kernel
theorem dX4_play_114 : decode cX4_play 114 = .ok (.aload_n 0, 1) := by decide +kernel
theorem dX4_play_115 : decode cX4_play 115 = .ok (.getfield 21, 3) := by decide +kernel
theorem dX4_play_118 : decode cX4_play 118 = .ok (.aload_n 1, 1) := by decide +kernel
theorem dX4_play_119 : decode cX4_play 119 = .ok (.bipush 7, 2) := by decide +kernel
theorem dX4_play_121 : decode cX4_play 121 = .ok (.invokevirtual 47, 3) := by decide +kernel
theorem dX4_play_124 : decode cX4_play 124 = .ok (.invokevirtual 86, 3) := by decide +kernel
theorem dX4_play_127 : decode cX4_play 127 = .ok (.ireturn, 1) := by decide +kernel
theorem dX4_begin_0 : decode cX4_begin 0 = .ok (.aload_n 0, 1) := by decide +kernel
theorem dX4_begin_1 : decode cX4_begin 1 = .ok (.aload_n 1, 1) := by decide +kernel
theorem dX4_begin_2 : decode cX4_begin 2 = .ok (.putfield 35, 3) := by decide +kernel
theorem dX4_begin_5 : decode cX4_begin 5 = .ok (.aload_n 0, 1) := by decide +kernel
theorem dX4_begin_6 : decode cX4_begin 6 = .ok (.aload_n 1, 1) := by decide +kernel
theorem dX4_begin_7 : decode cX4_begin 7 = .ok (.iconst 0, 1) := by decide +kernel
theorem dX4_begin_8 : decode cX4_begin 8 = .ok (.invokevirtual 47, 3) := by decide +kernel
theorem dX4_begin_11 : decode cX4_begin 11 = .ok (.putfield 89, 3) := by decide +kernel
theorem dX4_begin_14 : decode cX4_begin 14 = .ok (.aload_n 0, 1) := by decide +kernel
theorem dX4_begin_15 : decode cX4_begin 15 = .ok (.aload_n 1, 1) := by decide +kernel
theorem dX4_begin_16 : decode cX4_begin 16 = .ok (.iconst 1, 1) := by decide +kernel
theorem dX4_begin_17 : decode cX4_begin 17 = .ok (.invokevirtual 47, 3) := by decide +kernel
theorem dX4_begin_20 : decode cX4_begin 20 = .ok (.putfield 79, 3) := by decide +kernel
theorem dX4_begin_23 : decode cX4_begin 23 = .ok (.aload_n 0, 1) := by decide +kernel
theorem dX4_begin_24 : decode cX4_begin 24 = .ok (.aload_n 1, 1) := by decide +kernel
theorem dX4_begin_25 : decode cX4_begin 25 = .ok (.iconst 4, 1) := by decide +kernel
theorem dX4_begin_26 : decode cX4_begin 26 = .ok (.invokevirtual 47, 3) := by decide +kernel
theorem dX4_begin_29 : decode cX4_begin 29 = .ok (.putfield 92, 3) := by decide +kernel
theorem dX4_begin_32 : decode cX4_begin 32 = .ok (.aload_n 0, 1) := by decide +kernel
theorem dX4_begin_33 : decode cX4_begin 33 = .ok (.aload_n 1, 1) := by decide +kernel
theorem dX4_begin_34 : decode cX4_begin 34 = .ok (.iconst 5, 1) := by decide +kernel
theorem dX4_begin_35 : decode cX4_begin 35 = .ok (.invokevirtual 47, 3) := by decide +kernel
theorem dX4_begin_38 : decode cX4_begin 38 = .ok (.putfield 95, 3) := by decide +kernel
theorem dX4_begin_41 : decode cX4_begin 41 = .ok (.aload_n 0, 1) := by decide +kernel
theorem dX4_begin_42 : decode cX4_begin 42 = .ok (.aload_n 0, 1) := by decide +kernel
theorem dX4_begin_43 : decode cX4_begin 43 = .ok (.getfield 89, 3) := by decide +kernel
theorem dX4_begin_46 : decode cX4_begin 46 = .ok (.iconst 2, 1) := by decide +kernel
theorem dX4_begin_47 : decode cX4_begin 47 = .ok (.if_icmp .ne 12, 3) := by decide +kernel
theorem dX4_begin_50 : decode cX4_begin 50 = .ok (.aload_n 1, 1) := by decide +kernel
theorem dX4_begin_51 : decode cX4_begin 51 = .ok (.bipush 6, 2) := by decide +kernel
theorem dX4_begin_53 : decode cX4_begin 53 = .ok (.invokevirtual 47, 3) := by decide +kernel
theorem dX4_begin_56 : decode cX4_begin 56 = .ok (.goto 4, 3) := by decide +kernel
theorem dX4_begin_59 : decode cX4_begin 59 = .ok (.iconst 2, 1) := by decide +kernel
theorem dX4_begin_60 : decode cX4_begin 60 = .ok (.putfield 98, 3) := by decide +kernel
theorem dX4_begin_63 : decode cX4_begin 63 = .ok (.aload_n 0, 1) := by decide +kernel
theorem dX4_begin_64 : decode cX4_begin 64 = .ok (.iconst 0, 1) := by decide +kernel
theorem dX4_begin_65 : decode cX4_begin 65 = .ok (.putfield 62, 3) := by decide +kernel
theorem dX4_begin_68 : decode cX4_begin 68 = .ok (.aload_n 0, 1) := by decide +kernel
theorem dX4_begin_69 : decode cX4_begin 69 = .ok (.iconst 0, 1) := by decide +kernel
theorem dX4_begin_70 : decode cX4_begin 70 = .ok (.putfield 101, 3) := by decide +kernel
theorem dX4_begin_73 : decode cX4_begin 73 = .ok (.aload_n 0, 1) := by decide +kernel
theorem dX4_begin_74 : decode cX4_begin 74 = .ok (.iconst 0, 1) := by decide +kernel
theorem dX4_begin_75 : decode cX4_begin 75 = .ok (.putfield 104, 3) := by decide +kernel
theorem dX4_begin_78 : decode cX4_begin 78 = .ok (.aload_n 0, 1) := by decide +kernel
theorem dX4_begin_79 : decode cX4_begin 79 = .ok (.iconst 0, 1) := by decide +kernel
theorem dX4_begin_80 : decode cX4_begin 80 = .ok (.putfield 108, 3) := by decide +kernel
theorem dX4_begin_83 : decode cX4_begin 83 = .ok (.aload_n 0, 1) := by decide +kernel
theorem dX4_begin_84 : decode cX4_begin 84 = .ok (.iconst 0, 1) := by decide +kernel
theorem dX4_begin_85 : decode cX4_begin 85 = .ok (.putfield 111, 3) := by decide +kernel
theorem dX4_begin_88 : decode cX4_begin 88 = .ok (.aload_n 0, 1) := by decide +kernel
theorem dX4_begin_89 : decode cX4_begin 89 = .ok (.iconst 0, 1) := by decide +kernel
theorem dX4_begin_90 : decode cX4_begin 90 = .ok (.putfield 39, 3) := by decide +kernel
theorem dX4_begin_93 : decode cX4_begin 93 = .ok (.aload_n 0, 1) := by decide +kernel
theorem dX4_begin_94 : decode cX4_begin 94 = .ok (.getfield 12, 3) := by decide +kernel
theorem dX4_begin_97 : decode cX4_begin 97 = .ok (.invokevirtual 114, 3) := by decide +kernel
theorem dX4_begin_100 : decode cX4_begin 100 = .ok (.aload_n 0, 1) := by decide +kernel
theorem dX4_begin_101 : decode cX4_begin 101 = .ok (.getfield 21, 3) := by decide +kernel
theorem dX4_begin_104 : decode cX4_begin 104 = .ok (.aload_n 0, 1) := by decide +kernel
theorem dX4_begin_105 : decode cX4_begin 105 = .ok (.getfield 79, 3) := by decide +kernel
theorem dX4_begin_108 : decode cX4_begin 108 = .ok (.invokevirtual 116, 3) := by decide +kernel
theorem dX4_begin_111 : decode cX4_begin 111 = .ok (.aload_n 0, 1) := by decide +kernel
theorem dX4_begin_112 : decode cX4_begin 112 = .ok (.getfield 28, 3) := by decide +kernel
theorem dX4_begin_115 : decode cX4_begin 115 = .ok (.invokevirtual 118, 3) := by decide +kernel
theorem dX4_begin_118 : decode cX4_begin 118 = .ok (.return_, 1) := by decide +kernel
theorem dX4_signOf_0 : decode cX4_signOf 0 = .ok (.aload_n 0, 1) := by decide +kernel
theorem dX4_signOf_1 : decode cX4_signOf 1 = .ok (.getfield 98, 3) := by decide +kernel
theorem dX4_signOf_4 : decode cX4_signOf 4 = .ok (.ifCond .le 12, 3) := by decide +kernel
theorem dX4_signOf_7 : decode cX4_signOf 7 = .ok (.iload_n 1, 1) := by decide +kernel
theorem dX4_signOf_8 : decode cX4_signOf 8 = .ok (.aload_n 0, 1) := by decide +kernel
theorem dX4_signOf_9 : decode cX4_signOf 9 = .ok (.getfield 98, 3) := by decide +kernel
theorem dX4_signOf_12 : decode cX4_signOf 12 = .ok (.irem, 1) := by decide +kernel
theorem dX4_signOf_13 : decode cX4_signOf 13 = .ok (.goto 4, 3) := by decide +kernel
theorem dX4_signOf_16 : decode cX4_signOf 16 = .ok (.iconst 0, 1) := by decide +kernel
theorem dX4_signOf_17 : decode cX4_signOf 17 = .ok (.ireturn, 1) := by decide +kernel
theorem dX4_handleArrivals_0 : decode cX4_handleArrivals 0 = .ok (.aload_n 0, 1) := by decide +kernel
theorem dX4_handleArrivals_1 : decode cX4_handleArrivals 1 = .ok (.getfield 12, 3) := by decide +kernel
theorem dX4_handleArrivals_4 : decode cX4_handleArrivals 4 = .ok (.iload_n 1, 1) := by decide +kernel
theorem dX4_handleArrivals_5 : decode cX4_handleArrivals 5 = .ok (.invokevirtual 121, 3) := by decide +kernel
theorem dX4_handleArrivals_8 : decode cX4_handleArrivals 8 = .ok (.istore_n 2, 1) := by decide +kernel
theorem dX4_handleArrivals_9 : decode cX4_handleArrivals 9 = .ok (.aload_n 0, 1) := by decide +kernel
theorem dX4_handleArrivals_10 : decode cX4_handleArrivals 10 = .ok (.getfield 12, 3) := by decide +kernel
theorem dX4_handleArrivals_13 : decode cX4_handleArrivals 13 = .ok (.iload_n 1, 1) := by decide +kernel
theorem dX4_handleArrivals_14 : decode cX4_handleArrivals 14 = .ok (.invokevirtual 124, 3) := by decide +kernel
theorem dX4_handleArrivals_17 : decode cX4_handleArrivals 17 = .ok (.istore_n 3, 1) := by decide +kernel
theorem dX4_handleArrivals_18 : decode cX4_handleArrivals 18 = .ok (.iconst 0, 1) := by decide +kernel
theorem dX4_handleArrivals_19 : decode cX4_handleArrivals 19 = .ok (.istore 4, 2) := by decide +kernel
theorem dX4_handleArrivals_21 : decode cX4_handleArrivals 21 = .ok (.iload 4, 2) := by decide +kernel
theorem dX4_handleArrivals_23 : decode cX4_handleArrivals 23 = .ok (.iload_n 2, 1) := by decide +kernel
theorem dX4_handleArrivals_24 : decode cX4_handleArrivals 24 = .ok (.if_icmp .ge 96, 3) := by decide +kernel
theorem dX4_handleArrivals_27 : decode cX4_handleArrivals 27 = .ok (.iload_n 3, 1) := by decide +kernel
theorem dX4_handleArrivals_28 : decode cX4_handleArrivals 28 = .ok (.iconst 2, 1) := by decide +kernel
theorem dX4_handleArrivals_29 : decode cX4_handleArrivals 29 = .ok (.idiv, 1) := by decide +kernel
theorem dX4_handleArrivals_30 : decode cX4_handleArrivals 30 = .ok (.istore 5, 2) := by decide +kernel
theorem dX4_handleArrivals_32 : decode cX4_handleArrivals 32 = .ok (.aload_n 0, 1) := by decide +kernel
theorem dX4_handleArrivals_33 : decode cX4_handleArrivals 33 = .ok (.getfield 12, 3) := by decide +kernel
theorem dX4_handleArrivals_36 : decode cX4_handleArrivals 36 = .ok (.invokevirtual 127, 3) := by decide +kernel
theorem dX4_handleArrivals_39 : decode cX4_handleArrivals 39 = .ok (.aload_n 0, 1) := by decide +kernel
theorem dX4_handleArrivals_40 : decode cX4_handleArrivals 40 = .ok (.getfield 12, 3) := by decide +kernel
theorem dX4_handleArrivals_43 : decode cX4_handleArrivals 43 = .ok (.iload 5, 2) := by decide +kernel
theorem dX4_handleArrivals_45 : decode cX4_handleArrivals 45 = .ok (.iconst 2, 1) := by decide +kernel
theorem dX4_handleArrivals_46 : decode cX4_handleArrivals 46 = .ok (.invokevirtual 130, 3) := by decide +kernel
theorem dX4_handleArrivals_49 : decode cX4_handleArrivals 49 = .ok (.istore 6, 2) := by decide +kernel
theorem dX4_handleArrivals_51 : decode cX4_handleArrivals 51 = .ok (.aload_n 0, 1) := by decide +kernel
theorem dX4_handleArrivals_52 : decode cX4_handleArrivals 52 = .ok (.getfield 12, 3) := by decide +kernel
theorem dX4_handleArrivals_55 : decode cX4_handleArrivals 55 = .ok (.iload 5, 2) := by decide +kernel
theorem dX4_handleArrivals_57 : decode cX4_handleArrivals 57 = .ok (.iconst 1, 1) := by decide +kernel
theorem dX4_handleArrivals_58 : decode cX4_handleArrivals 58 = .ok (.invokevirtual 130, 3) := by decide +kernel
theorem dX4_handleArrivals_61 : decode cX4_handleArrivals 61 = .ok (.iconst 1, 1) := by decide +kernel
theorem dX4_handleArrivals_62 : decode cX4_handleArrivals 62 = .ok (.if_icmp .ne 13, 3) := by decide +kernel
theorem dX4_handleArrivals_65 : decode cX4_handleArrivals 65 = .ok (.aload_n 0, 1) := by decide +kernel
theorem dX4_handleArrivals_66 : decode cX4_handleArrivals 66 = .ok (.iload 6, 2) := by decide +kernel
theorem dX4_handleArrivals_68 : decode cX4_handleArrivals 68 = .ok (.iload_n 1, 1) := by decide +kernel
theorem dX4_handleArrivals_69 : decode cX4_handleArrivals 69 = .ok (.invokevirtual 133, 3) := by decide +kernel
theorem dX4_handleArrivals_72 : decode cX4_handleArrivals 72 = .ok (.goto 33, 3) := by decide +kernel
theorem dX4_handleArrivals_75 : decode cX4_handleArrivals 75 = .ok (.aload_n 0, 1) := by decide +kernel
theorem dX4_handleArrivals_76 : decode cX4_handleArrivals 76 = .ok (.iload 6, 2) := by decide +kernel
theorem dX4_handleArrivals_78 : decode cX4_handleArrivals 78 = .ok (.iload_n 1, 1) := by decide +kernel
theorem dX4_handleArrivals_79 : decode cX4_handleArrivals 79 = .ok (.invokevirtual 136, 3) := by decide +kernel
theorem dX4_handleArrivals_82 : decode cX4_handleArrivals 82 = .ok (.istore 7, 2) := by decide +kernel
theorem dX4_handleArrivals_84 : decode cX4_handleArrivals 84 = .ok (.iload 7, 2) := by decide +kernel
theorem dX4_handleArrivals_86 : decode cX4_handleArrivals 86 = .ok (.iconst (-1), 1) := by decide +kernel
theorem dX4_handleArrivals_87 : decode cX4_handleArrivals 87 = .ok (.if_icmp .eq 18, 3) := by decide +kernel
theorem dX4_handleArrivals_90 : decode cX4_handleArrivals 90 = .ok (.aload_n 0, 1) := by decide +kernel
theorem dX4_handleArrivals_91 : decode cX4_handleArrivals 91 = .ok (.getfield 12, 3) := by decide +kernel
theorem dX4_handleArrivals_94 : decode cX4_handleArrivals 94 = .ok (.aload_n 0, 1) := by decide +kernel
theorem dX4_handleArrivals_95 : decode cX4_handleArrivals 95 = .ok (.getfield 35, 3) := by decide +kernel
theorem dX4_handleArrivals_98 : decode cX4_handleArrivals 98 = .ok (.iload_n 1, 1) := by decide +kernel
theorem dX4_handleArrivals_99 : decode cX4_handleArrivals 99 = .ok (.iconst 1, 1) := by decide +kernel
theorem dX4_handleArrivals_100 : decode cX4_handleArrivals 100 = .ok (.iload 7, 2) := by decide +kernel
theorem dX4_handleArrivals_102 : decode cX4_handleArrivals 102 = .ok (.invokevirtual 58, 3) := by decide +kernel
theorem dX4_handleArrivals_105 : decode cX4_handleArrivals 105 = .ok (.aload_n 0, 1) := by decide +kernel
theorem dX4_handleArrivals_106 : decode cX4_handleArrivals 106 = .ok (.getfield 12, 3) := by decide +kernel
theorem dX4_handleArrivals_109 : decode cX4_handleArrivals 109 = .ok (.iload_n 3, 1) := by decide +kernel
theorem dX4_handleArrivals_110 : decode cX4_handleArrivals 110 = .ok (.invokevirtual 139, 3) := by decide +kernel
theorem dX4_handleArrivals_113 : decode cX4_handleArrivals 113 = .ok (.istore_n 3, 1) := by decide +kernel
theorem dX4_handleArrivals_114 : decode cX4_handleArrivals 114 = .ok (.iinc 4 1, 3) := by decide +kernel
theorem dX4_handleArrivals_117 : decode cX4_handleArrivals 117 = .ok (.goto (-96), 3) := by decide +kernel
theorem dX4_handleArrivals_120 : decode cX4_handleArrivals 120 = .ok (.return_, 1) := by decide +kernel
theorem dX4_receiveData_0 : decode cX4_receiveData 0 = .ok (.aload_n 0, 1) := by decide +kernel
theorem dX4_receiveData_1 : decode cX4_receiveData 1 = .ok (.getfield 89, 3) := by decide +kernel
theorem dX4_receiveData_4 : decode cX4_receiveData 4 = .ok (.ifCond .ne 14, 3) := by decide +kernel
theorem dX4_receiveData_7 : decode cX4_receiveData 7 = .ok (.aload_n 0, 1) := by decide +kernel
theorem dX4_receiveData_8 : decode cX4_receiveData 8 = .ok (.getfield 21, 3) := by decide +kernel
theorem dX4_receiveData_11 : decode cX4_receiveData 11 = .ok (.iload_n 1, 1) := by decide +kernel
theorem dX4_receiveData_12 : decode cX4_receiveData 12 = .ok (.iload_n 2, 1) := by decide +kernel
theorem dX4_receiveData_13 : decode cX4_receiveData 13 = .ok (.invokevirtual 142, 3) := by decide +kernel
theorem dX4_receiveData_16 : decode cX4_receiveData 16 = .ok (.iconst (-1), 1) := by decide +kernel
theorem dX4_receiveData_17 : decode cX4_receiveData 17 = .ok (.ireturn, 1) := by decide +kernel
theorem dX4_receiveData_18 : decode cX4_receiveData 18 = .ok (.aload_n 0, 1) := by decide +kernel
theorem dX4_receiveData_19 : decode cX4_receiveData 19 = .ok (.iload_n 1, 1) := by decide +kernel
theorem dX4_receiveData_20 : decode cX4_receiveData 20 = .ok (.invokevirtual 143, 3) := by decide +kernel
theorem dX4_receiveData_23 : decode cX4_receiveData 23 = .ok (.istore_n 3, 1) := by decide +kernel
theorem dX4_receiveData_24 : decode cX4_receiveData 24 = .ok (.iload_n 3, 1) := by decide +kernel
theorem dX4_receiveData_25 : decode cX4_receiveData 25 = .ok (.aload_n 0, 1) := by decide +kernel
theorem dX4_receiveData_26 : decode cX4_receiveData 26 = .ok (.aload_n 0, 1) := by decide +kernel
theorem dX4_receiveData_27 : decode cX4_receiveData 27 = .ok (.getfield 111, 3) := by decide +kernel
theorem dX4_receiveData_30 : decode cX4_receiveData 30 = .ok (.invokevirtual 143, 3) := by decide +kernel
theorem dX4_receiveData_33 : decode cX4_receiveData 33 = .ok (.if_icmp .ne 22, 3) := by decide +kernel
theorem dX4_receiveData_36 : decode cX4_receiveData 36 = .ok (.aload_n 0, 1) := by decide +kernel
theorem dX4_receiveData_37 : decode cX4_receiveData 37 = .ok (.getfield 21, 3) := by decide +kernel
theorem dX4_receiveData_40 : decode cX4_receiveData 40 = .ok (.iload_n 1, 1) := by decide +kernel
theorem dX4_receiveData_41 : decode cX4_receiveData 41 = .ok (.iload_n 2, 1) := by decide +kernel
theorem dX4_receiveData_42 : decode cX4_receiveData 42 = .ok (.invokevirtual 142, 3) := by decide +kernel
theorem dX4_receiveData_45 : decode cX4_receiveData 45 = .ok (.aload_n 0, 1) := by decide +kernel
theorem dX4_receiveData_46 : decode cX4_receiveData 46 = .ok (.dup, 1) := by decide +kernel
theorem dX4_receiveData_47 : decode cX4_receiveData 47 = .ok (.getfield 111, 3) := by decide +kernel
theorem dX4_receiveData_50 : decode cX4_receiveData 50 = .ok (.iconst 1, 1) := by decide +kernel
theorem dX4_receiveData_51 : decode cX4_receiveData 51 = .ok (.iadd, 1) := by decide +kernel
theorem dX4_receiveData_52 : decode cX4_receiveData 52 = .ok (.putfield 111, 3) := by decide +kernel
theorem dX4_receiveData_55 : decode cX4_receiveData 55 = .ok (.aload_n 0, 1) := by decide +kernel
theorem dX4_receiveData_56 : decode cX4_receiveData 56 = .ok (.getfield 89, 3) := by decide +kernel
theorem dX4_receiveData_59 : decode cX4_receiveData 59 = .ok (.iconst 2, 1) := by decide +kernel
theorem dX4_receiveData_60 : decode cX4_receiveData 60 = .ok (.if_icmp .ne 14, 3) := by decide +kernel
theorem dX4_receiveData_63 : decode cX4_receiveData 63 = .ok (.aload_n 0, 1) := by decide +kernel
theorem dX4_receiveData_64 : decode cX4_receiveData 64 = .ok (.aload_n 0, 1) := by decide +kernel
theorem dX4_receiveData_65 : decode cX4_receiveData 65 = .ok (.getfield 111, 3) := by decide +kernel
theorem dX4_receiveData_68 : decode cX4_receiveData 68 = .ok (.invokevirtual 143, 3) := by decide +kernel
theorem dX4_receiveData_71 : decode cX4_receiveData 71 = .ok (.goto 4, 3) := by decide +kernel
theorem dX4_receiveData_74 : decode cX4_receiveData 74 = .ok (.iload_n 3, 1) := by decide +kernel
theorem dX4_receiveData_75 : decode cX4_receiveData 75 = .ok (.ireturn, 1) := by decide +kernel
theorem dX4_receiveAnswer_0 : decode cX4_receiveAnswer 0 = .ok (.aload_n 0, 1) := by decide +kernel
theorem dX4_receiveAnswer_1 : decode cX4_receiveAnswer 1 = .ok (.getfield 89, 3) := by decide +kernel
theorem dX4_receiveAnswer_4 : decode cX4_receiveAnswer 4 = .ok (.iconst 2, 1) := by decide +kernel
theorem dX4_receiveAnswer_5 : decode cX4_receiveAnswer 5 = .ok (.if_icmp .eq 42, 3) := by decide +kernel
theorem dX4_receiveAnswer_8 : decode cX4_receiveAnswer 8 = .ok (.aload_n 0, 1) := by decide +kernel
theorem dX4_receiveAnswer_9 : decode cX4_receiveAnswer 9 = .ok (.getfield 62, 3) := by decide +kernel
theorem dX4_receiveAnswer_12 : decode cX4_receiveAnswer 12 = .ok (.aload_n 0, 1) := by decide +kernel
theorem dX4_receiveAnswer_13 : decode cX4_receiveAnswer 13 = .ok (.getfield 79, 3) := by decide +kernel
theorem dX4_receiveAnswer_16 : decode cX4_receiveAnswer 16 = .ok (.if_icmp .ge 30, 3) := by decide +kernel
theorem dX4_receiveAnswer_19 : decode cX4_receiveAnswer 19 = .ok (.iload_n 1, 1) := by decide +kernel
theorem dX4_receiveAnswer_20 : decode cX4_receiveAnswer 20 = .ok (.aload_n 0, 1) := by decide +kernel
theorem dX4_receiveAnswer_21 : decode cX4_receiveAnswer 21 = .ok (.aload_n 0, 1) := by decide +kernel
theorem dX4_receiveAnswer_22 : decode cX4_receiveAnswer 22 = .ok (.getfield 62, 3) := by decide +kernel
theorem dX4_receiveAnswer_25 : decode cX4_receiveAnswer 25 = .ok (.invokevirtual 143, 3) := by decide +kernel
theorem dX4_receiveAnswer_28 : decode cX4_receiveAnswer 28 = .ok (.if_icmp .ne 18, 3) := by decide +kernel
theorem dX4_receiveAnswer_31 : decode cX4_receiveAnswer 31 = .ok (.aload_n 0, 1) := by decide +kernel
theorem dX4_receiveAnswer_32 : decode cX4_receiveAnswer 32 = .ok (.dup, 1) := by decide +kernel
theorem dX4_receiveAnswer_33 : decode cX4_receiveAnswer 33 = .ok (.getfield 62, 3) := by decide +kernel
theorem dX4_receiveAnswer_36 : decode cX4_receiveAnswer 36 = .ok (.iconst 1, 1) := by decide +kernel
theorem dX4_receiveAnswer_37 : decode cX4_receiveAnswer 37 = .ok (.iadd, 1) := by decide +kernel
theorem dX4_receiveAnswer_38 : decode cX4_receiveAnswer 38 = .ok (.putfield 62, 3) := by decide +kernel
theorem dX4_receiveAnswer_41 : decode cX4_receiveAnswer 41 = .ok (.aload_n 0, 1) := by decide +kernel
theorem dX4_receiveAnswer_42 : decode cX4_receiveAnswer 42 = .ok (.iconst 0, 1) := by decide +kernel
theorem dX4_receiveAnswer_43 : decode cX4_receiveAnswer 43 = .ok (.putfield 104, 3) := by decide +kernel
theorem dX4_receiveAnswer_46 : decode cX4_receiveAnswer 46 = .ok (.return_, 1) := by decide +kernel
theorem dX4_receiveAnswer_47 : decode cX4_receiveAnswer 47 = .ok (.aload_n 0, 1) := by decide +kernel
theorem dX4_receiveAnswer_48 : decode cX4_receiveAnswer 48 = .ok (.getfield 62, 3) := by decide +kernel
theorem dX4_receiveAnswer_51 : decode cX4_receiveAnswer 51 = .ok (.iconst 1, 1) := by decide +kernel
theorem dX4_receiveAnswer_52 : decode cX4_receiveAnswer 52 = .ok (.iadd, 1) := by decide +kernel
theorem dX4_receiveAnswer_53 : decode cX4_receiveAnswer 53 = .ok (.istore_n 3, 1) := by decide +kernel
theorem dX4_receiveAnswer_54 : decode cX4_receiveAnswer 54 = .ok (.iload_n 3, 1) := by decide +kernel
theorem dX4_receiveAnswer_55 : decode cX4_receiveAnswer 55 = .ok (.aload_n 0, 1) := by decide +kernel
theorem dX4_receiveAnswer_56 : decode cX4_receiveAnswer 56 = .ok (.getfield 101, 3) := by decide +kernel
theorem dX4_receiveAnswer_59 : decode cX4_receiveAnswer 59 = .ok (.if_icmp .gt 29, 3) := by decide +kernel
theorem dX4_receiveAnswer_62 : decode cX4_receiveAnswer 62 = .ok (.aload_n 0, 1) := by decide +kernel
theorem dX4_receiveAnswer_63 : decode cX4_receiveAnswer 63 = .ok (.iload_n 3, 1) := by decide +kernel
theorem dX4_receiveAnswer_64 : decode cX4_receiveAnswer 64 = .ok (.invokevirtual 143, 3) := by decide +kernel
theorem dX4_receiveAnswer_67 : decode cX4_receiveAnswer 67 = .ok (.iload_n 1, 1) := by decide +kernel
theorem dX4_receiveAnswer_68 : decode cX4_receiveAnswer 68 = .ok (.if_icmp .ne 14, 3) := by decide +kernel
theorem dX4_receiveAnswer_71 : decode cX4_receiveAnswer 71 = .ok (.aload_n 0, 1) := by decide +kernel
theorem dX4_receiveAnswer_72 : decode cX4_receiveAnswer 72 = .ok (.iload_n 3, 1) := by decide +kernel
theorem dX4_receiveAnswer_73 : decode cX4_receiveAnswer 73 = .ok (.putfield 62, 3) := by decide +kernel
theorem dX4_receiveAnswer_76 : decode cX4_receiveAnswer 76 = .ok (.aload_n 0, 1) := by decide +kernel
theorem dX4_receiveAnswer_77 : decode cX4_receiveAnswer 77 = .ok (.iload_n 2, 1) := by decide +kernel
theorem dX4_receiveAnswer_78 : decode cX4_receiveAnswer 78 = .ok (.putfield 108, 3) := by decide +kernel
theorem dX4_receiveAnswer_81 : decode cX4_receiveAnswer 81 = .ok (.return_, 1) := by decide +kernel
theorem dX4_receiveAnswer_82 : decode cX4_receiveAnswer 82 = .ok (.iinc 3 1, 3) := by decide +kernel
theorem dX4_receiveAnswer_85 : decode cX4_receiveAnswer 85 = .ok (.goto (-31), 3) := by decide +kernel
theorem dX4_receiveAnswer_88 : decode cX4_receiveAnswer 88 = .ok (.return_, 1) := by decide +kernel
theorem dX4_takeSendersTurn_0 : decode cX4_takeSendersTurn 0 = .ok (.aload_n 0, 1) := by decide +kernel
theorem dX4_takeSendersTurn_1 : decode cX4_takeSendersTurn 1 = .ok (.getfield 89, 3) := by decide +kernel
theorem dX4_takeSendersTurn_4 : decode cX4_takeSendersTurn 4 = .ok (.lookupswitch 40 #[(1, 28), (2, 34)], 28) := by decide +kernel
theorem dX4_takeSendersTurn_32 : decode cX4_takeSendersTurn 32 = .ok (.aload_n 0, 1) := by decide +kernel
theorem dX4_takeSendersTurn_33 : decode cX4_takeSendersTurn 33 = .ok (.iload_n 1, 1) := by decide +kernel
theorem dX4_takeSendersTurn_34 : decode cX4_takeSendersTurn 34 = .ok (.invokevirtual 146, 3) := by decide +kernel
theorem dX4_takeSendersTurn_37 : decode cX4_takeSendersTurn 37 = .ok (.ireturn, 1) := by decide +kernel
theorem dX4_takeSendersTurn_38 : decode cX4_takeSendersTurn 38 = .ok (.aload_n 0, 1) := by decide +kernel
theorem dX4_takeSendersTurn_39 : decode cX4_takeSendersTurn 39 = .ok (.iload_n 1, 1) := by decide +kernel
theorem dX4_takeSendersTurn_40 : decode cX4_takeSendersTurn 40 = .ok (.invokevirtual 149, 3) := by decide +kernel
theorem dX4_takeSendersTurn_43 : decode cX4_takeSendersTurn 43 = .ok (.ireturn, 1) := by decide +kernel
theorem dX4_takeSendersTurn_44 : decode cX4_takeSendersTurn 44 = .ok (.aload_n 0, 1) := by decide +kernel
theorem dX4_takeSendersTurn_45 : decode cX4_takeSendersTurn 45 = .ok (.invokevirtual 152, 3) := by decide +kernel
theorem dX4_takeSendersTurn_48 : decode cX4_takeSendersTurn 48 = .ok (.ireturn, 1) := by decide +kernel
theorem dX4_takeNextItem_0 : decode cX4_takeNextItem 0 = .ok (.aload_n 0, 1) := by decide +kernel
theorem dX4_takeNextItem_1 : decode cX4_takeNextItem 1 = .ok (.getfield 62, 3) := by decide +kernel
theorem dX4_takeNextItem_4 : decode cX4_takeNextItem 4 = .ok (.aload_n 0, 1) := by decide +kernel
theorem dX4_takeNextItem_5 : decode cX4_takeNextItem 5 = .ok (.getfield 79, 3) := by decide +kernel
theorem dX4_takeNextItem_8 : decode cX4_takeNextItem 8 = .ok (.if_icmp .lt 5, 3) := by decide +kernel
theorem dX4_takeNextItem_11 : decode cX4_takeNextItem 11 = .ok (.iconst (-1), 1) := by decide +kernel
theorem dX4_takeNextItem_12 : decode cX4_takeNextItem 12 = .ok (.ireturn, 1) := by decide +kernel
theorem dX4_takeNextItem_13 : decode cX4_takeNextItem 13 = .ok (.aload_n 0, 1) := by decide +kernel
theorem dX4_takeNextItem_14 : decode cX4_takeNextItem 14 = .ok (.dup, 1) := by decide +kernel
theorem dX4_takeNextItem_15 : decode cX4_takeNextItem 15 = .ok (.getfield 62, 3) := by decide +kernel
theorem dX4_takeNextItem_18 : decode cX4_takeNextItem 18 = .ok (.iconst 1, 1) := by decide +kernel
theorem dX4_takeNextItem_19 : decode cX4_takeNextItem 19 = .ok (.iadd, 1) := by decide +kernel
theorem dX4_takeNextItem_20 : decode cX4_takeNextItem 20 = .ok (.putfield 62, 3) := by decide +kernel
theorem dX4_takeNextItem_23 : decode cX4_takeNextItem 23 = .ok (.aload_n 0, 1) := by decide +kernel
theorem dX4_takeNextItem_24 : decode cX4_takeNextItem 24 = .ok (.getfield 62, 3) := by decide +kernel
theorem dX4_takeNextItem_27 : decode cX4_takeNextItem 27 = .ok (.iconst 1, 1) := by decide +kernel
theorem dX4_takeNextItem_28 : decode cX4_takeNextItem 28 = .ok (.isub, 1) := by decide +kernel
theorem dX4_takeNextItem_29 : decode cX4_takeNextItem 29 = .ok (.ireturn, 1) := by decide +kernel
theorem dX4_takePresentItem_0 : decode cX4_takePresentItem 0 = .ok (.aload_n 0, 1) := by decide +kernel
theorem dX4_takePresentItem_1 : decode cX4_takePresentItem 1 = .ok (.getfield 62, 3) := by decide +kernel
theorem dX4_takePresentItem_4 : decode cX4_takePresentItem 4 = .ok (.aload_n 0, 1) := by decide +kernel
theorem dX4_takePresentItem_5 : decode cX4_takePresentItem 5 = .ok (.getfield 79, 3) := by decide +kernel
theorem dX4_takePresentItem_8 : decode cX4_takePresentItem 8 = .ok (.if_icmp .ge 23, 3) := by decide +kernel
theorem dX4_takePresentItem_11 : decode cX4_takePresentItem 11 = .ok (.aload_n 0, 1) := by decide +kernel
theorem dX4_takePresentItem_12 : decode cX4_takePresentItem 12 = .ok (.getfield 104, 3) := by decide +kernel
theorem dX4_takePresentItem_15 : decode cX4_takePresentItem 15 = .ok (.ifCond .eq 18, 3) := by decide +kernel
theorem dX4_takePresentItem_18 : decode cX4_takePresentItem 18 = .ok (.iload_n 1, 1) := by decide +kernel
theorem dX4_takePresentItem_19 : decode cX4_takePresentItem 19 = .ok (.aload_n 0, 1) := by decide +kernel
theorem dX4_takePresentItem_20 : decode cX4_takePresentItem 20 = .ok (.getfield 108, 3) := by decide +kernel
theorem dX4_takePresentItem_23 : decode cX4_takePresentItem 23 = .ok (.isub, 1) := by decide +kernel
theorem dX4_takePresentItem_24 : decode cX4_takePresentItem 24 = .ok (.aload_n 0, 1) := by decide +kernel
theorem dX4_takePresentItem_25 : decode cX4_takePresentItem 25 = .ok (.getfield 92, 3) := by decide +kernel
theorem dX4_takePresentItem_28 : decode cX4_takePresentItem 28 = .ok (.if_icmp .ge 5, 3) := by decide +kernel
theorem dX4_takePresentItem_31 : decode cX4_takePresentItem 31 = .ok (.iconst (-1), 1) := by decide +kernel
theorem dX4_takePresentItem_32 : decode cX4_takePresentItem 32 = .ok (.ireturn, 1) := by decide +kernel
theorem dX4_takePresentItem_33 : decode cX4_takePresentItem 33 = .ok (.aload_n 0, 1) := by decide +kernel
theorem dX4_takePresentItem_34 : decode cX4_takePresentItem 34 = .ok (.iconst 1, 1) := by decide +kernel
theorem dX4_takePresentItem_35 : decode cX4_takePresentItem 35 = .ok (.putfield 104, 3) := by decide +kernel
theorem dX4_takePresentItem_38 : decode cX4_takePresentItem 38 = .ok (.aload_n 0, 1) := by decide +kernel
theorem dX4_takePresentItem_39 : decode cX4_takePresentItem 39 = .ok (.iload_n 1, 1) := by decide +kernel
theorem dX4_takePresentItem_40 : decode cX4_takePresentItem 40 = .ok (.putfield 108, 3) := by decide +kernel
theorem dX4_takePresentItem_43 : decode cX4_takePresentItem 43 = .ok (.aload_n 0, 1) := by decide +kernel
theorem dX4_takePresentItem_44 : decode cX4_takePresentItem 44 = .ok (.getfield 62, 3) := by decide +kernel
theorem dX4_takePresentItem_47 : decode cX4_takePresentItem 47 = .ok (.ireturn, 1) := by decide +kernel
theorem dX4_takeItemInWindow_0 : decode cX4_takeItemInWindow 0 = .ok (.aload_n 0, 1) := by decide +kernel
theorem dX4_takeItemInWindow_1 : decode cX4_takeItemInWindow 1 = .ok (.getfield 62, 3) := by decide +kernel
theorem dX4_takeItemInWindow_4 : decode cX4_takeItemInWindow 4 = .ok (.aload_n 0, 1) := by decide +kernel
theorem dX4_takeItemInWindow_5 : decode cX4_takeItemInWindow 5 = .ok (.getfield 101, 3) := by decide +kernel
theorem dX4_takeItemInWindow_8 : decode cX4_takeItemInWindow 8 = .ok (.if_icmp .ge 29, 3) := by decide +kernel
theorem dX4_takeItemInWindow_11 : decode cX4_takeItemInWindow 11 = .ok (.iload_n 1, 1) := by decide +kernel
theorem dX4_takeItemInWindow_12 : decode cX4_takeItemInWindow 12 = .ok (.aload_n 0, 1) := by decide +kernel
theorem dX4_takeItemInWindow_13 : decode cX4_takeItemInWindow 13 = .ok (.getfield 108, 3) := by decide +kernel
theorem dX4_takeItemInWindow_16 : decode cX4_takeItemInWindow 16 = .ok (.isub, 1) := by decide +kernel
theorem dX4_takeItemInWindow_17 : decode cX4_takeItemInWindow 17 = .ok (.aload_n 0, 1) := by decide +kernel
theorem dX4_takeItemInWindow_18 : decode cX4_takeItemInWindow 18 = .ok (.getfield 92, 3) := by decide +kernel
theorem dX4_takeItemInWindow_21 : decode cX4_takeItemInWindow 21 = .ok (.if_icmp .lt 16, 3) := by decide +kernel
theorem dX4_takeItemInWindow_24 : decode cX4_takeItemInWindow 24 = .ok (.aload_n 0, 1) := by decide +kernel
theorem dX4_takeItemInWindow_25 : decode cX4_takeItemInWindow 25 = .ok (.iload_n 1, 1) := by decide +kernel
theorem dX4_takeItemInWindow_26 : decode cX4_takeItemInWindow 26 = .ok (.putfield 108, 3) := by decide +kernel
theorem dX4_takeItemInWindow_29 : decode cX4_takeItemInWindow 29 = .ok (.aload_n 0, 1) := by decide +kernel
theorem dX4_takeItemInWindow_30 : decode cX4_takeItemInWindow 30 = .ok (.aload_n 0, 1) := by decide +kernel
theorem dX4_takeItemInWindow_31 : decode cX4_takeItemInWindow 31 = .ok (.getfield 62, 3) := by decide +kernel
theorem dX4_takeItemInWindow_34 : decode cX4_takeItemInWindow 34 = .ok (.putfield 101, 3) := by decide +kernel
theorem dX4_takeItemInWindow_37 : decode cX4_takeItemInWindow 37 = .ok (.aload_n 0, 1) := by decide +kernel
theorem dX4_takeItemInWindow_38 : decode cX4_takeItemInWindow 38 = .ok (.getfield 101, 3) := by decide +kernel
theorem dX4_takeItemInWindow_41 : decode cX4_takeItemInWindow 41 = .ok (.aload_n 0, 1) := by decide +kernel
theorem dX4_takeItemInWindow_42 : decode cX4_takeItemInWindow 42 = .ok (.getfield 62, 3) := by decide +kernel
theorem dX4_takeItemInWindow_45 : decode cX4_takeItemInWindow 45 = .ok (.aload_n 0, 1) := by decide +kernel
theorem dX4_takeItemInWindow_46 : decode cX4_takeItemInWindow 46 = .ok (.getfield 95, 3) := by decide +kernel
theorem dX4_takeItemInWindow_49 : decode cX4_takeItemInWindow 49 = .ok (.iadd, 1) := by decide +kernel
theorem dX4_takeItemInWindow_50 : decode cX4_takeItemInWindow 50 = .ok (.if_icmp .ge 14, 3) := by decide +kernel
theorem dX4_takeItemInWindow_53 : decode cX4_takeItemInWindow 53 = .ok (.aload_n 0, 1) := by decide +kernel
theorem dX4_takeItemInWindow_54 : decode cX4_takeItemInWindow 54 = .ok (.getfield 101, 3) := by decide +kernel
theorem dX4_takeItemInWindow_57 : decode cX4_takeItemInWindow 57 = .ok (.aload_n 0, 1) := by decide +kernel
theorem dX4_takeItemInWindow_58 : decode cX4_takeItemInWindow 58 = .ok (.getfield 79, 3) := by decide +kernel
theorem dX4_takeItemInWindow_61 : decode cX4_takeItemInWindow 61 = .ok (.if_icmp .lt 5, 3) := by decide +kernel
theorem dX4_takeItemInWindow_64 : decode cX4_takeItemInWindow 64 = .ok (.iconst (-1), 1) := by decide +kernel
theorem dX4_takeItemInWindow_65 : decode cX4_takeItemInWindow 65 = .ok (.ireturn, 1) := by decide +kernel
theorem dX4_takeItemInWindow_66 : decode cX4_takeItemInWindow 66 = .ok (.aload_n 0, 1) := by decide +kernel
theorem dX4_takeItemInWindow_67 : decode cX4_takeItemInWindow 67 = .ok (.getfield 62, 3) := by decide +kernel
theorem dX4_takeItemInWindow_70 : decode cX4_takeItemInWindow 70 = .ok (.aload_n 0, 1) := by decide +kernel
theorem dX4_takeItemInWindow_71 : decode cX4_takeItemInWindow 71 = .ok (.getfield 101, 3) := by decide +kernel
theorem dX4_takeItemInWindow_74 : decode cX4_takeItemInWindow 74 = .ok (.if_icmp .ne 8, 3) := by decide +kernel
theorem dX4_takeItemInWindow_77 : decode cX4_takeItemInWindow 77 = .ok (.aload_n 0, 1) := by decide +kernel
theorem dX4_takeItemInWindow_78 : decode cX4_takeItemInWindow 78 = .ok (.iload_n 1, 1) := by decide +kernel
theorem dX4_takeItemInWindow_79 : decode cX4_takeItemInWindow 79 = .ok (.putfield 108, 3) := by decide +kernel
theorem dX4_takeItemInWindow_82 : decode cX4_takeItemInWindow 82 = .ok (.aload_n 0, 1) := by decide +kernel
theorem dX4_takeItemInWindow_83 : decode cX4_takeItemInWindow 83 = .ok (.dup, 1) := by decide +kernel
theorem dX4_takeItemInWindow_84 : decode cX4_takeItemInWindow 84 = .ok (.getfield 101, 3) := by decide +kernel
theorem dX4_takeItemInWindow_87 : decode cX4_takeItemInWindow 87 = .ok (.iconst 1, 1) := by decide +kernel
theorem dX4_takeItemInWindow_88 : decode cX4_takeItemInWindow 88 = .ok (.iadd, 1) := by decide +kernel
theorem dX4_takeItemInWindow_89 : decode cX4_takeItemInWindow 89 = .ok (.putfield 101, 3) := by decide +kernel
theorem dX4_takeItemInWindow_92 : decode cX4_takeItemInWindow 92 = .ok (.aload_n 0, 1) := by decide +kernel
theorem dX4_takeItemInWindow_93 : decode cX4_takeItemInWindow 93 = .ok (.getfield 101, 3) := by decide +kernel
theorem dX4_takeItemInWindow_96 : decode cX4_takeItemInWindow 96 = .ok (.iconst 1, 1) := by decide +kernel
theorem dX4_takeItemInWindow_97 : decode cX4_takeItemInWindow 97 = .ok (.isub, 1) := by decide +kernel
theorem dX4_takeItemInWindow_98 : decode cX4_takeItemInWindow 98 = .ok (.ireturn, 1) := by decide +kernel
theorem dX5_init_0 : decode cX5_init 0 = .ok (.aload_n 0, 1) := by decide +kernel
theorem dX5_init_1 : decode cX5_init 1 = .ok (.invokespecial 3, 3) := by decide +kernel
theorem dX5_init_4 : decode cX5_init 4 = .ok (.aload_n 0, 1) := by decide +kernel
theorem dX5_init_5 : decode cX5_init 5 = .ok (.bipush 9, 2) := by decide +kernel
theorem dX5_init_7 : decode cX5_init 7 = .ok (.newarray .int, 2) := by decide +kernel
theorem dX5_init_9 : decode cX5_init 9 = .ok (.putfield 9, 3) := by decide +kernel
theorem dX5_init_12 : decode cX5_init 12 = .ok (.return_, 1) := by decide +kernel
theorem dX5_removeAll_0 : decode cX5_removeAll 0 = .ok (.iconst 0, 1) := by decide +kernel
theorem dX5_removeAll_1 : decode cX5_removeAll 1 = .ok (.istore_n 1, 1) := by decide +kernel
theorem dX5_removeAll_2 : decode cX5_removeAll 2 = .ok (.iload_n 1, 1) := by decide +kernel
theorem dX5_removeAll_3 : decode cX5_removeAll 3 = .ok (.bipush 9, 2) := by decide +kernel
theorem dX5_removeAll_5 : decode cX5_removeAll 5 = .ok (.if_icmp .ge 16, 3) := by decide +kernel
theorem dX5_removeAll_8 : decode cX5_removeAll 8 = .ok (.aload_n 0, 1) := by decide +kernel
theorem dX5_removeAll_9 : decode cX5_removeAll 9 = .ok (.getfield 9, 3) := by decide +kernel
theorem dX5_removeAll_12 : decode cX5_removeAll 12 = .ok (.iload_n 1, 1) := by decide +kernel
theorem dX5_removeAll_13 : decode cX5_removeAll 13 = .ok (.iconst 0, 1) := by decide +kernel
theorem dX5_removeAll_14 : decode cX5_removeAll 14 = .ok (.iastore, 1) := by decide +kernel
theorem dX5_removeAll_15 : decode cX5_removeAll 15 = .ok (.iinc 1 1, 3) := by decide +kernel
theorem dX5_removeAll_18 : decode cX5_removeAll 18 = .ok (.goto (-16), 3) := by decide +kernel
theorem dX5_removeAll_21 : decode cX5_removeAll 21 = .ok (.return_, 1) := by decide +kernel
theorem dX5_takeAll_0 : decode cX5_takeAll 0 = .ok (.iconst 0, 1) := by decide +kernel
theorem dX5_takeAll_1 : decode cX5_takeAll 1 = .ok (.istore_n 2, 1) := by decide +kernel
theorem dX5_takeAll_2 : decode cX5_takeAll 2 = .ok (.iload_n 2, 1) := by decide +kernel
theorem dX5_takeAll_3 : decode cX5_takeAll 3 = .ok (.bipush 9, 2) := by decide +kernel
theorem dX5_takeAll_5 : decode cX5_takeAll 5 = .ok (.if_icmp .ge 21, 3) := by decide +kernel
theorem dX5_takeAll_8 : decode cX5_takeAll 8 = .ok (.aload_n 0, 1) := by decide +kernel
theorem dX5_takeAll_9 : decode cX5_takeAll 9 = .ok (.getfield 9, 3) := by decide +kernel
theorem dX5_takeAll_12 : decode cX5_takeAll 12 = .ok (.iload_n 2, 1) := by decide +kernel
theorem dX5_takeAll_13 : decode cX5_takeAll 13 = .ok (.aload_n 1, 1) := by decide +kernel
theorem dX5_takeAll_14 : decode cX5_takeAll 14 = .ok (.getfield 9, 3) := by decide +kernel
theorem dX5_takeAll_17 : decode cX5_takeAll 17 = .ok (.iload_n 2, 1) := by decide +kernel
theorem dX5_takeAll_18 : decode cX5_takeAll 18 = .ok (.iaload, 1) := by decide +kernel
theorem dX5_takeAll_19 : decode cX5_takeAll 19 = .ok (.iastore, 1) := by decide +kernel
theorem dX5_takeAll_20 : decode cX5_takeAll 20 = .ok (.iinc 2 1, 3) := by decide +kernel
theorem dX5_takeAll_23 : decode cX5_takeAll 23 = .ok (.goto (-21), 3) := by decide +kernel
theorem dX5_takeAll_26 : decode cX5_takeAll 26 = .ok (.return_, 1) := by decide +kernel
theorem dX5_put_0 : decode cX5_put 0 = .ok (.iload_n 1, 1) := by decide +kernel
theorem dX5_put_1 : decode cX5_put 1 = .ok (.iload_n 2, 1) := by decide +kernel
theorem dX5_put_2 : decode cX5_put 2 = .ok (.invokestatic 15, 3) := by decide +kernel
theorem dX5_put_5 : decode cX5_put 5 = .ok (.ifCond .eq 15, 3) := by decide +kernel
theorem dX5_put_8 : decode cX5_put 8 = .ok (.aload_n 0, 1) := by decide +kernel
theorem dX5_put_9 : decode cX5_put 9 = .ok (.getfield 9, 3) := by decide +kernel
theorem dX5_put_12 : decode cX5_put 12 = .ok (.iload_n 1, 1) := by decide +kernel
theorem dX5_put_13 : decode cX5_put 13 = .ok (.dup2, 1) := by decide +kernel
theorem dX5_put_14 : decode cX5_put 14 = .ok (.iaload, 1) := by decide +kernel
theorem dX5_put_15 : decode cX5_put 15 = .ok (.iconst 1, 1) := by decide +kernel
theorem dX5_put_16 : decode cX5_put 16 = .ok (.iload_n 2, 1) := by decide +kernel
theorem dX5_put_17 : decode cX5_put 17 = .ok (.ishl, 1) := by decide +kernel
theorem dX5_put_18 : decode cX5_put 18 = .ok (.ior, 1) := by decide +kernel
theorem dX5_put_19 : decode cX5_put 19 = .ok (.iastore, 1) := by decide +kernel
theorem dX5_put_20 : decode cX5_put 20 = .ok (.return_, 1) := by decide +kernel
theorem dX5_holds_0 : decode cX5_holds 0 = .ok (.iload_n 1, 1) := by decide +kernel
theorem dX5_holds_1 : decode cX5_holds 1 = .ok (.iload_n 2, 1) := by decide +kernel
theorem dX5_holds_2 : decode cX5_holds 2 = .ok (.invokestatic 15, 3) := by decide +kernel
theorem dX5_holds_5 : decode cX5_holds 5 = .ok (.ifCond .eq 20, 3) := by decide +kernel
theorem dX5_holds_8 : decode cX5_holds 8 = .ok (.aload_n 0, 1) := by decide +kernel
theorem dX5_holds_9 : decode cX5_holds 9 = .ok (.getfield 9, 3) := by decide +kernel
theorem dX5_holds_12 : decode cX5_holds 12 = .ok (.iload_n 1, 1) := by decide +kernel
theorem dX5_holds_13 : decode cX5_holds 13 = .ok (.iaload, 1) := by decide +kernel
theorem dX5_holds_14 : decode cX5_holds 14 = .ok (.iload_n 2, 1) := by decide +kernel
theorem dX5_holds_15 : decode cX5_holds 15 = .ok (.ishr, 1) := by decide +kernel
theorem dX5_holds_16 : decode cX5_holds 16 = .ok (.iconst 1, 1) := by decide +kernel
theorem dX5_holds_17 : decode cX5_holds 17 = .ok (.iand, 1) := by decide +kernel
theorem dX5_holds_18 : decode cX5_holds 18 = .ok (.ifCond .eq 7, 3) := by decide +kernel
theorem dX5_holds_21 : decode cX5_holds 21 = .ok (.iconst 1, 1) := by decide +kernel
theorem dX5_holds_22 : decode cX5_holds 22 = .ok (.goto 4, 3) := by decide +kernel
theorem dX5_holds_25 : decode cX5_holds 25 = .ok (.iconst 0, 1) := by decide +kernel
theorem dX5_holds_26 : decode cX5_holds 26 = .ok (.ireturn, 1) := by decide +kernel
theorem dX5_addAll_0 : decode cX5_addAll 0 = .ok (.aload_n 0, 1) := by decide +kernel
theorem dX5_addAll_1 : decode cX5_addAll 1 = .ok (.invokevirtual 19, 3) := by decide +kernel
theorem dX5_addAll_4 : decode cX5_addAll 4 = .ok (.istore_n 2, 1) := by decide +kernel
theorem dX5_addAll_5 : decode cX5_addAll 5 = .ok (.iconst 0, 1) := by decide +kernel
theorem dX5_addAll_6 : decode cX5_addAll 6 = .ok (.istore_n 3, 1) := by decide +kernel
theorem dX5_addAll_7 : decode cX5_addAll 7 = .ok (.iload_n 3, 1) := by decide +kernel
theorem dX5_addAll_8 : decode cX5_addAll 8 = .ok (.bipush 9, 2) := by decide +kernel
theorem dX5_addAll_10 : decode cX5_addAll 10 = .ok (.if_icmp .ge 24, 3) := by decide +kernel
theorem dX5_addAll_13 : decode cX5_addAll 13 = .ok (.aload_n 0, 1) := by decide +kernel
theorem dX5_addAll_14 : decode cX5_addAll 14 = .ok (.getfield 9, 3) := by decide +kernel
theorem dX5_addAll_17 : decode cX5_addAll 17 = .ok (.iload_n 3, 1) := by decide +kernel
theorem dX5_addAll_18 : decode cX5_addAll 18 = .ok (.dup2, 1) := by decide +kernel
theorem dX5_addAll_19 : decode cX5_addAll 19 = .ok (.iaload, 1) := by decide +kernel
theorem dX5_addAll_20 : decode cX5_addAll 20 = .ok (.aload_n 1, 1) := by decide +kernel
theorem dX5_addAll_21 : decode cX5_addAll 21 = .ok (.getfield 9, 3) := by decide +kernel
theorem dX5_addAll_24 : decode cX5_addAll 24 = .ok (.iload_n 3, 1) := by decide +kernel
theorem dX5_addAll_25 : decode cX5_addAll 25 = .ok (.iaload, 1) := by decide +kernel
theorem dX5_addAll_26 : decode cX5_addAll 26 = .ok (.ior, 1) := by decide +kernel
theorem dX5_addAll_27 : decode cX5_addAll 27 = .ok (.iastore, 1) := by decide +kernel
theorem dX5_addAll_28 : decode cX5_addAll 28 = .ok (.iinc 3 1, 3) := by decide +kernel
theorem dX5_addAll_31 : decode cX5_addAll 31 = .ok (.goto (-24), 3) := by decide +kernel
theorem dX5_addAll_34 : decode cX5_addAll 34 = .ok (.aload_n 0, 1) := by decide +kernel
theorem dX5_addAll_35 : decode cX5_addAll 35 = .ok (.invokevirtual 19, 3) := by decide +kernel
theorem dX5_addAll_38 : decode cX5_addAll 38 = .ok (.iload_n 2, 1) := by decide +kernel
theorem dX5_addAll_39 : decode cX5_addAll 39 = .ok (.isub, 1) := by decide +kernel
theorem dX5_addAll_40 : decode cX5_addAll 40 = .ok (.ireturn, 1) := by decide +kernel
theorem dX5_howMany_0 : decode cX5_howMany 0 = .ok (.iconst 0, 1) := by decide +kernel
theorem dX5_howMany_1 : decode cX5_howMany 1 = .ok (.istore_n 1, 1) := by decide +kernel
theorem dX5_howMany_2 : decode cX5_howMany 2 = .ok (.iconst 0, 1) := by decide +kernel
theorem dX5_howMany_3 : decode cX5_howMany 3 = .ok (.istore_n 2, 1) := by decide +kernel
theorem dX5_howMany_4 : decode cX5_howMany 4 = .ok (.iload_n 2, 1) := by decide +kernel
theorem dX5_howMany_5 : decode cX5_howMany 5 = .ok (.bipush 9, 2) := by decide +kernel
theorem dX5_howMany_7 : decode cX5_howMany 7 = .ok (.if_icmp .ge 21, 3) := by decide +kernel
theorem dX5_howMany_10 : decode cX5_howMany 10 = .ok (.iload_n 1, 1) := by decide +kernel
theorem dX5_howMany_11 : decode cX5_howMany 11 = .ok (.aload_n 0, 1) := by decide +kernel
theorem dX5_howMany_12 : decode cX5_howMany 12 = .ok (.getfield 9, 3) := by decide +kernel
theorem dX5_howMany_15 : decode cX5_howMany 15 = .ok (.iload_n 2, 1) := by decide +kernel
theorem dX5_howMany_16 : decode cX5_howMany 16 = .ok (.iaload, 1) := by decide +kernel
theorem dX5_howMany_17 : decode cX5_howMany 17 = .ok (.invokestatic 23, 3) := by decide +kernel
theorem dX5_howMany_20 : decode cX5_howMany 20 = .ok (.iadd, 1) := by decide +kernel
theorem dX5_howMany_21 : decode cX5_howMany 21 = .ok (.istore_n 1, 1) := by decide +kernel
theorem dX5_howMany_22 : decode cX5_howMany 22 = .ok (.iinc 2 1, 3) := by decide +kernel
theorem dX5_howMany_25 : decode cX5_howMany 25 = .ok (.goto (-21), 3) := by decide +kernel
theorem dX5_howMany_28 : decode cX5_howMany 28 = .ok (.iload_n 1, 1) := by decide +kernel
theorem dX5_howMany_29 : decode cX5_howMany 29 = .ok (.ireturn, 1) := by decide +kernel
theorem dX5_isState_0 : decode cX5_isState 0 = .ok (.iload_n 0, 1) := by decide +kernel
theorem dX5_isState_1 : decode cX5_isState 1 = .ok (.ifCond .lt 23, 3) := by decide +kernel
theorem dX5_isState_4 : decode cX5_isState 4 = .ok (.iload_n 0, 1) := by decide +kernel
theorem dX5_isState_5 : decode cX5_isState 5 = .ok (.bipush 9, 2) := by decide +kernel
theorem dX5_isState_7 : decode cX5_isState 7 = .ok (.if_icmp .ge 17, 3) := by decide +kernel
theorem dX5_isState_10 : decode cX5_isState 10 = .ok (.iload_n 1, 1) := by decide +kernel
theorem dX5_isState_11 : decode cX5_isState 11 = .ok (.ifCond .lt 13, 3) := by decide +kernel
theorem dX5_isState_14 : decode cX5_isState 14 = .ok (.iload_n 1, 1) := by decide +kernel
theorem dX5_isState_15 : decode cX5_isState 15 = .ok (.bipush 15, 2) := by decide +kernel
theorem dX5_isState_17 : decode cX5_isState 17 = .ok (.if_icmp .gt 7, 3) := by decide +kernel
theorem dX5_isState_20 : decode cX5_isState 20 = .ok (.iconst 1, 1) := by decide +kernel
theorem dX5_isState_21 : decode cX5_isState 21 = .ok (.goto 4, 3) := by decide +kernel
theorem dX5_isState_24 : decode cX5_isState 24 = .ok (.iconst 0, 1) := by decide +kernel
theorem dX5_isState_25 : decode cX5_isState 25 = .ok (.ireturn, 1) := by decide +kernel
theorem dX6_init_0 : decode cX6_init 0 = .ok (.aload_n 0, 1) := by decide +kernel
theorem dX6_init_1 : decode cX6_init 1 = .ok (.invokespecial 1, 3) := by decide +kernel
theorem dX6_init_4 : decode cX6_init 4 = .ok (.aload_n 0, 1) := by decide +kernel
theorem dX6_init_5 : decode cX6_init 5 = .ok (.new 7, 3) := by decide +kernel
theorem dX6_init_8 : decode cX6_init 8 = .ok (.dup, 1) := by decide +kernel
theorem dX6_init_9 : decode cX6_init 9 = .ok (.invokespecial 9, 3) := by decide +kernel
theorem dX6_init_12 : decode cX6_init 12 = .ok (.putfield 10, 3) := by decide +kernel
theorem dX6_init_15 : decode cX6_init 15 = .ok (.aload_n 0, 1) := by decide +kernel
theorem dX6_init_16 : decode cX6_init 16 = .ok (.getfield 10, 3) := by decide +kernel
theorem dX6_init_19 : decode cX6_init 19 = .ok (.invokevirtual 16, 3) := by decide +kernel
theorem dX6_init_22 : decode cX6_init 22 = .ok (.aload_n 0, 1) := by decide +kernel
theorem dX6_init_23 : decode cX6_init 23 = .ok (.new 7, 3) := by decide +kernel
theorem dX6_init_26 : decode cX6_init 26 = .ok (.dup, 1) := by decide +kernel
theorem dX6_init_27 : decode cX6_init 27 = .ok (.invokespecial 9, 3) := by decide +kernel
theorem dX6_init_30 : decode cX6_init 30 = .ok (.putfield 19, 3) := by decide +kernel
theorem dX6_init_33 : decode cX6_init 33 = .ok (.aload_n 0, 1) := by decide +kernel
theorem dX6_init_34 : decode cX6_init 34 = .ok (.new 22, 3) := by decide +kernel
theorem dX6_init_37 : decode cX6_init 37 = .ok (.dup, 1) := by decide +kernel
theorem dX6_init_38 : decode cX6_init 38 = .ok (.invokespecial 24, 3) := by decide +kernel
theorem dX6_init_41 : decode cX6_init 41 = .ok (.putfield 25, 3) := by decide +kernel
theorem dX6_init_44 : decode cX6_init 44 = .ok (.aload_n 0, 1) := by decide +kernel
theorem dX6_init_45 : decode cX6_init 45 = .ok (.new 29, 3) := by decide +kernel
theorem dX6_init_48 : decode cX6_init 48 = .ok (.dup, 1) := by decide +kernel
theorem dX6_init_49 : decode cX6_init 49 = .ok (.invokespecial 31, 3) := by decide +kernel
theorem dX6_init_52 : decode cX6_init 52 = .ok (.putfield 32, 3) := by decide +kernel
theorem dX6_init_55 : decode cX6_init 55 = .ok (.aload_n 0, 1) := by decide +kernel
theorem dX6_init_56 : decode cX6_init 56 = .ok (.bipush 10, 2) := by decide +kernel
theorem dX6_init_58 : decode cX6_init 58 = .ok (.anewarray 7, 3) := by decide +kernel
theorem dX6_init_61 : decode cX6_init 61 = .ok (.putfield 36, 3) := by decide +kernel
theorem dX6_init_64 : decode cX6_init 64 = .ok (.iconst 0, 1) := by decide +kernel
theorem dX6_init_65 : decode cX6_init 65 = .ok (.istore_n 1, 1) := by decide +kernel
theorem dX6_init_66 : decode cX6_init 66 = .ok (.iload_n 1, 1) := by decide +kernel
theorem dX6_init_67 : decode cX6_init 67 = .ok (.bipush 10, 2) := by decide +kernel
theorem dX6_init_69 : decode cX6_init 69 = .ok (.if_icmp .ge 22, 3) := by decide +kernel
theorem dX6_init_72 : decode cX6_init 72 = .ok (.aload_n 0, 1) := by decide +kernel
theorem dX6_init_73 : decode cX6_init 73 = .ok (.getfield 36, 3) := by decide +kernel
theorem dX6_init_76 : decode cX6_init 76 = .ok (.iload_n 1, 1) := by decide +kernel
theorem dX6_init_77 : decode cX6_init 77 = .ok (.new 7, 3) := by decide +kernel
theorem dX6_init_80 : decode cX6_init 80 = .ok (.dup, 1) := by decide +kernel
theorem dX6_init_81 : decode cX6_init 81 = .ok (.invokespecial 9, 3) := by decide +kernel
theorem dX6_init_84 : decode cX6_init 84 = .ok (.aastore, 1) := by decide +kernel
theorem dX6_init_85 : decode cX6_init 85 = .ok (.iinc 1 1, 3) := by decide +kernel
theorem dX6_init_88 : decode cX6_init 88 = .ok (.goto (-22), 3) := by decide +kernel
theorem dX6_init_91 : decode cX6_init 91 = .ok (.aload_n 0, 1) := by decide +kernel
theorem dX6_init_92 : decode cX6_init 92 = .ok (.iconst 0, 1) := by decide +kernel
theorem dX6_init_93 : decode cX6_init 93 = .ok (.putfield 40, 3) := by decide +kernel
theorem dX6_init_96 : decode cX6_init 96 = .ok (.aload_n 0, 1) := by decide +kernel
theorem dX6_init_97 : decode cX6_init 97 = .ok (.iconst 2, 1) := by decide +kernel
theorem dX6_init_98 : decode cX6_init 98 = .ok (.anewarray 7, 3) := by decide +kernel
theorem dX6_init_101 : decode cX6_init 101 = .ok (.putfield 44, 3) := by decide +kernel
theorem dX6_init_104 : decode cX6_init 104 = .ok (.iconst 0, 1) := by decide +kernel
theorem dX6_init_105 : decode cX6_init 105 = .ok (.istore_n 1, 1) := by decide +kernel
theorem dX6_init_106 : decode cX6_init 106 = .ok (.iload_n 1, 1) := by decide +kernel
theorem dX6_init_107 : decode cX6_init 107 = .ok (.iconst 2, 1) := by decide +kernel
theorem dX6_init_108 : decode cX6_init 108 = .ok (.if_icmp .ge 22, 3) := by decide +kernel
theorem dX6_init_111 : decode cX6_init 111 = .ok (.aload_n 0, 1) := by decide +kernel
theorem dX6_init_112 : decode cX6_init 112 = .ok (.getfield 44, 3) := by decide +kernel
theorem dX6_init_115 : decode cX6_init 115 = .ok (.iload_n 1, 1) := by decide +kernel
theorem dX6_init_116 : decode cX6_init 116 = .ok (.new 7, 3) := by decide +kernel
theorem dX6_init_119 : decode cX6_init 119 = .ok (.dup, 1) := by decide +kernel
theorem dX6_init_120 : decode cX6_init 120 = .ok (.invokespecial 9, 3) := by decide +kernel
theorem dX6_init_123 : decode cX6_init 123 = .ok (.aastore, 1) := by decide +kernel
theorem dX6_init_124 : decode cX6_init 124 = .ok (.iinc 1 1, 3) := by decide +kernel
theorem dX6_init_127 : decode cX6_init 127 = .ok (.goto (-21), 3) := by decide +kernel
theorem dX6_init_130 : decode cX6_init 130 = .ok (.aload_n 0, 1) := by decide +kernel
theorem dX6_init_131 : decode cX6_init 131 = .ok (.iconst 2, 1) := by decide +kernel
theorem dX6_init_132 : decode cX6_init 132 = .ok (.newarray .boolean, 2) := by decide +kernel
theorem dX6_init_134 : decode cX6_init 134 = .ok (.putfield 47, 3) := by decide +kernel
theorem dX6_init_137 : decode cX6_init 137 = .ok (.return_, 1) := by decide +kernel
theorem dX6_append_0 : decode cX6_append 0 = .ok (.aload_n 0, 1) := by decide +kernel
theorem dX6_append_1 : decode cX6_append 1 = .ok (.getfield 32, 3) := by decide +kernel
theorem dX6_append_4 : decode cX6_append 4 = .ok (.invokevirtual 51, 3) := by decide +kernel
theorem dX6_append_7 : decode cX6_append 7 = .ok (.bipush 20, 2) := by decide +kernel
theorem dX6_append_9 : decode cX6_append 9 = .ok (.iadd, 1) := by decide +kernel
theorem dX6_append_10 : decode cX6_append 10 = .ok (.sipush 500, 3) := by decide +kernel
theorem dX6_append_13 : decode cX6_append 13 = .ok (.if_icmp .le 5, 3) := by decide +kernel
theorem dX6_append_16 : decode cX6_append 16 = .ok (.iconst (-1), 1) := by decide +kernel
theorem dX6_append_17 : decode cX6_append 17 = .ok (.ireturn, 1) := by decide +kernel
theorem dX6_append_18 : decode cX6_append 18 = .ok (.aload_n 0, 1) := by decide +kernel
theorem dX6_append_19 : decode cX6_append 19 = .ok (.getfield 32, 3) := by decide +kernel
theorem dX6_append_22 : decode cX6_append 22 = .ok (.iload_n 1, 1) := by decide +kernel
theorem dX6_append_23 : decode cX6_append 23 = .ok (.invokevirtual 55, 3) := by decide +kernel
theorem dX6_append_26 : decode cX6_append 26 = .ok (.aload_n 0, 1) := by decide +kernel
theorem dX6_append_27 : decode cX6_append 27 = .ok (.getfield 32, 3) := by decide +kernel
theorem dX6_append_30 : decode cX6_append 30 = .ok (.iload_n 2, 1) := by decide +kernel
theorem dX6_append_31 : decode cX6_append 31 = .ok (.invokevirtual 55, 3) := by decide +kernel
theorem dX6_append_34 : decode cX6_append 34 = .ok (.aload_n 0, 1) := by decide +kernel
theorem dX6_append_35 : decode cX6_append 35 = .ok (.getfield 32, 3) := by decide +kernel
theorem dX6_append_38 : decode cX6_append 38 = .ok (.iload_n 3, 1) := by decide +kernel
theorem dX6_append_39 : decode cX6_append 39 = .ok (.invokevirtual 55, 3) := by decide +kernel
theorem dX6_append_42 : decode cX6_append 42 = .ok (.aload_n 0, 1) := by decide +kernel
theorem dX6_append_43 : decode cX6_append 43 = .ok (.getfield 32, 3) := by decide +kernel
theorem dX6_append_46 : decode cX6_append 46 = .ok (.iload 4, 2) := by decide +kernel
theorem dX6_append_48 : decode cX6_append 48 = .ok (.invokevirtual 55, 3) := by decide +kernel
theorem dX6_append_51 : decode cX6_append 51 = .ok (.aload_n 0, 1) := by decide +kernel
theorem dX6_append_52 : decode cX6_append 52 = .ok (.getfield 32, 3) := by decide +kernel
theorem dX6_append_55 : decode cX6_append 55 = .ok (.iload 5, 2) := by decide +kernel
theorem dX6_append_57 : decode cX6_append 57 = .ok (.invokevirtual 55, 3) := by decide +kernel
theorem dX6_append_60 : decode cX6_append 60 = .ok (.aload_n 0, 1) := by decide +kernel
theorem dX6_append_61 : decode cX6_append 61 = .ok (.getfield 32, 3) := by decide +kernel
theorem dX6_append_64 : decode cX6_append 64 = .ok (.invokevirtual 51, 3) := by decide +kernel
theorem dX6_append_67 : decode cX6_append 67 = .ok (.ireturn, 1) := by decide +kernel
theorem dX6_parse_0 : decode cX6_parse 0 = .ok (.iload_n 1, 1) := by decide +kernel
theorem dX6_parse_1 : decode cX6_parse 1 = .ok (.ifCond .lt 14, 3) := by decide +kernel
theorem dX6_parse_4 : decode cX6_parse 4 = .ok (.iload_n 1, 1) := by decide +kernel
theorem dX6_parse_5 : decode cX6_parse 5 = .ok (.aload_n 0, 1) := by decide +kernel
theorem dX6_parse_6 : decode cX6_parse 6 = .ok (.getfield 32, 3) := by decide +kernel
theorem dX6_parse_9 : decode cX6_parse 9 = .ok (.invokevirtual 51, 3) := by decide +kernel
theorem dX6_parse_12 : decode cX6_parse 12 = .ok (.if_icmp .le 13, 3) := by decide +kernel
theorem dX6_parse_15 : decode cX6_parse 15 = .ok (.new 59, 3) := by decide +kernel
theorem dX6_parse_18 : decode cX6_parse 18 = .ok (.dup, 1) := by decide +kernel
theorem dX6_parse_19 : decode cX6_parse 19 = .ok (.ldc 61, 2) := by decide +kernel
theorem dX6_parse_21 : decode cX6_parse 21 = .ok (.invokespecial 63, 3) := by decide +kernel
theorem dX6_parse_24 : decode cX6_parse 24 = .ok (.athrow, 1) := by decide +kernel
theorem dX6_parse_25 : decode cX6_parse 25 = .ok (.aload_n 0, 1) := by decide +kernel
theorem dX6_parse_26 : decode cX6_parse 26 = .ok (.getfield 32, 3) := by decide +kernel
theorem dX6_parse_29 : decode cX6_parse 29 = .ok (.iload_n 1, 1) := by decide +kernel
theorem dX6_parse_30 : decode cX6_parse 30 = .ok (.invokevirtual 66, 3) := by decide +kernel
theorem dX6_parse_33 : decode cX6_parse 33 = .ok (.istore_n 2, 1) := by decide +kernel
theorem dX6_parse_34 : decode cX6_parse 34 = .ok (.iload_n 2, 1) := by decide +kernel
theorem dX6_parse_35 : decode cX6_parse 35 = .ok (.ifCond .ne 42, 3) := by decide +kernel
theorem dX6_parse_38 : decode cX6_parse 38 = .ok (.aload_n 0, 1) := by decide +kernel
theorem dX6_parse_39 : decode cX6_parse 39 = .ok (.getfield 10, 3) := by decide +kernel
theorem dX6_parse_42 : decode cX6_parse 42 = .ok (.aload_n 0, 1) := by decide +kernel
theorem dX6_parse_43 : decode cX6_parse 43 = .ok (.getfield 32, 3) := by decide +kernel
theorem dX6_parse_46 : decode cX6_parse 46 = .ok (.invokevirtual 70, 3) := by decide +kernel
theorem dX6_parse_49 : decode cX6_parse 49 = .ok (.invokevirtual 74, 3) := by decide +kernel
theorem dX6_parse_52 : decode cX6_parse 52 = .ok (.aload_n 0, 1) := by decide +kernel
theorem dX6_parse_53 : decode cX6_parse 53 = .ok (.iconst 0, 1) := by decide +kernel
theorem dX6_parse_54 : decode cX6_parse 54 = .ok (.putfield 40, 3) := by decide +kernel
theorem dX6_parse_57 : decode cX6_parse 57 = .ok (.iconst 0, 1) := by decide +kernel
theorem dX6_parse_58 : decode cX6_parse 58 = .ok (.istore_n 3, 1) := by decide +kernel
theorem dX6_parse_59 : decode cX6_parse 59 = .ok (.iload_n 3, 1) := by decide +kernel
theorem dX6_parse_60 : decode cX6_parse 60 = .ok (.iconst 2, 1) := by decide +kernel
theorem dX6_parse_61 : decode cX6_parse 61 = .ok (.if_icmp .ge 16, 3) := by decide +kernel
theorem dX6_parse_64 : decode cX6_parse 64 = .ok (.aload_n 0, 1) := by decide +kernel
theorem dX6_parse_65 : decode cX6_parse 65 = .ok (.getfield 47, 3) := by decide +kernel
theorem dX6_parse_68 : decode cX6_parse 68 = .ok (.iload_n 3, 1) := by decide +kernel
theorem dX6_parse_69 : decode cX6_parse 69 = .ok (.iconst 0, 1) := by decide +kernel
theorem dX6_parse_70 : decode cX6_parse 70 = .ok (.bastore, 1) := by decide +kernel
theorem dX6_parse_71 : decode cX6_parse 71 = .ok (.iinc 3 1, 3) := by decide +kernel
theorem dX6_parse_74 : decode cX6_parse 74 = .ok (.goto (-15), 3) := by decide +kernel
theorem dX6_parse_77 : decode cX6_parse 77 = .ok (.iload_n 2, 1) := by decide +kernel
theorem dX6_parse_78 : decode cX6_parse 78 = .ok (.ireturn, 1) := by decide +kernel
theorem dX6_size_0 : decode cX6_size 0 = .ok (.iload_n 1, 1) := by decide +kernel
theorem dX6_size_1 : decode cX6_size 1 = .ok (.ifCond .lt 18, 3) := by decide +kernel
theorem dX6_size_4 : decode cX6_size 4 = .ok (.iload_n 1, 1) := by decide +kernel
theorem dX6_size_5 : decode cX6_size 5 = .ok (.bipush 8, 2) := by decide +kernel
theorem dX6_size_7 : decode cX6_size 7 = .ok (.if_icmp .ge 12, 3) := by decide +kernel
theorem dX6_size_10 : decode cX6_size 10 = .ok (.aload_n 0, 1) := by decide +kernel
theorem dX6_size_11 : decode cX6_size 11 = .ok (.getfield 10, 3) := by decide +kernel
theorem dX6_size_14 : decode cX6_size 14 = .ok (.iload_n 1, 1) := by decide +kernel
theorem dX6_size_15 : decode cX6_size 15 = .ok (.invokevirtual 81, 3) := by decide +kernel
theorem dX6_size_18 : decode cX6_size 18 = .ok (.ireturn, 1) := by decide +kernel
theorem dX6_size_19 : decode cX6_size 19 = .ok (.iload_n 1, 1) := by decide +kernel
theorem dX6_size_20 : decode cX6_size 20 = .ok (.tableswitch 52 8 10 #[28, 36, 41], 28) := by decide +kernel
theorem dX6_size_48 : decode cX6_size 48 = .ok (.aload_n 0, 1) := by decide +kernel
theorem dX6_size_49 : decode cX6_size 49 = .ok (.getfield 10, 3) := by decide +kernel
theorem dX6_size_52 : decode cX6_size 52 = .ok (.invokevirtual 84, 3) := by decide +kernel
theorem dX6_size_55 : decode cX6_size 55 = .ok (.ireturn, 1) := by decide +kernel
theorem dX6_size_56 : decode cX6_size 56 = .ok (.aload_n 0, 1) := by decide +kernel
theorem dX6_size_57 : decode cX6_size 57 = .ok (.getfield 40, 3) := by decide +kernel
theorem dX6_size_60 : decode cX6_size 60 = .ok (.ireturn, 1) := by decide +kernel
theorem dX6_size_61 : decode cX6_size 61 = .ok (.aload_n 0, 1) := by decide +kernel
theorem dX6_size_62 : decode cX6_size 62 = .ok (.getfield 10, 3) := by decide +kernel
theorem dX6_size_65 : decode cX6_size 65 = .ok (.invokevirtual 87, 3) := by decide +kernel
theorem dX6_size_68 : decode cX6_size 68 = .ok (.invokevirtual 91, 3) := by decide +kernel
theorem dX6_size_71 : decode cX6_size 71 = .ok (.ireturn, 1) := by decide +kernel
theorem dX6_size_72 : decode cX6_size 72 = .ok (.new 59, 3) := by decide +kernel
theorem dX6_size_75 : decode cX6_size 75 = .ok (.dup, 1) := by decide +kernel
theorem dX6_size_76 : decode cX6_size 76 = .ok (.ldc 96, 2) := by decide +kernel
theorem dX6_size_78 : decode cX6_size 78 = .ok (.invokespecial 63, 3) := by decide +kernel
theorem dX6_size_81 : decode cX6_size 81 = .ok (.athrow, 1) := by decide +kernel
theorem dX6_fault_0 : decode cX6_fault 0 = .ok (.aload_n 0, 1) := by decide +kernel
theorem dX6_fault_1 : decode cX6_fault 1 = .ok (.iload_n 1, 1) := by decide +kernel
theorem dX6_fault_2 : decode cX6_fault 2 = .ok (.invokevirtual 98, 3) := by decide +kernel
theorem dX6_fault_5 : decode cX6_fault 5 = .ok (.iload_n 2, 1) := by decide +kernel
theorem dX6_fault_6 : decode cX6_fault 6 = .ok (.ifCond .lt 8, 3) := by decide +kernel
theorem dX6_fault_9 : decode cX6_fault 9 = .ok (.iload_n 2, 1) := by decide +kernel
theorem dX6_fault_10 : decode cX6_fault 10 = .ok (.iconst 2, 1) := by decide +kernel
theorem dX6_fault_11 : decode cX6_fault 11 = .ok (.if_icmp .le 13, 3) := by decide +kernel
theorem dX6_fault_14 : decode cX6_fault 14 = .ok (.new 59, 3) := by decide +kernel
theorem dX6_fault_17 : decode cX6_fault 17 = .ok (.dup, 1) := by decide +kernel
theorem dX6_fault_18 : decode cX6_fault 18 = .ok (.ldc 101, 2) := by decide +kernel
theorem dX6_fault_20 : decode cX6_fault 20 = .ok (.invokespecial 63, 3) := by decide +kernel
theorem dX6_fault_23 : decode cX6_fault 23 = .ok (.athrow, 1) := by decide +kernel
theorem dX6_fault_24 : decode cX6_fault 24 = .ok (.aload_n 0, 1) := by decide +kernel
theorem dX6_fault_25 : decode cX6_fault 25 = .ok (.getfield 10, 3) := by decide +kernel
theorem dX6_fault_28 : decode cX6_fault 28 = .ok (.iload_n 1, 1) := by decide +kernel
theorem dX6_fault_29 : decode cX6_fault 29 = .ok (.iload_n 2, 1) := by decide +kernel
theorem dX6_fault_30 : decode cX6_fault 30 = .ok (.invokevirtual 103, 3) := by decide +kernel
theorem dX6_fault_33 : decode cX6_fault 33 = .ok (.ireturn, 1) := by decide +kernel
theorem dX6_result_0 : decode cX6_result 0 = .ok (.iload_n 1, 1) := by decide +kernel
theorem dX6_result_1 : decode cX6_result 1 = .ok (.ifCond .lt 9, 3) := by decide +kernel
theorem dX6_result_4 : decode cX6_result 4 = .ok (.iload_n 1, 1) := by decide +kernel
theorem dX6_result_5 : decode cX6_result 5 = .ok (.bipush 7, 2) := by decide +kernel
theorem dX6_result_7 : decode cX6_result 7 = .ok (.if_icmp .le 13, 3) := by decide +kernel
theorem dX6_result_10 : decode cX6_result 10 = .ok (.new 59, 3) := by decide +kernel
theorem dX6_result_13 : decode cX6_result 13 = .ok (.dup, 1) := by decide +kernel
theorem dX6_result_14 : decode cX6_result 14 = .ok (.ldc 107, 2) := by decide +kernel
theorem dX6_result_16 : decode cX6_result 16 = .ok (.invokespecial 63, 3) := by decide +kernel
theorem dX6_result_19 : decode cX6_result 19 = .ok (.athrow, 1) := by decide +kernel
theorem dX6_result_20 : decode cX6_result 20 = .ok (.aload_n 0, 1) := by decide +kernel
theorem dX6_result_21 : decode cX6_result 21 = .ok (.getfield 25, 3) := by decide +kernel
theorem dX6_result_24 : decode cX6_result 24 = .ok (.aload_n 0, 1) := by decide +kernel
theorem dX6_result_25 : decode cX6_result 25 = .ok (.getfield 10, 3) := by decide +kernel
theorem dX6_result_28 : decode cX6_result 28 = .ok (.invokevirtual 109, 3) := by decide +kernel
theorem dX6_result_31 : decode cX6_result 31 = .ok (.istore_n 2, 1) := by decide +kernel
theorem dX6_result_32 : decode cX6_result 32 = .ok (.iload_n 1, 1) := by decide +kernel
theorem dX6_result_33 : decode cX6_result 33 = .ok (.tableswitch 117 0 6 #[43, 51, 62, 73, 84, 95, 106], 43) := by decide +kernel
theorem dX6_result_76 : decode cX6_result 76 = .ok (.aload_n 0, 1) := by decide +kernel
theorem dX6_result_77 : decode cX6_result 77 = .ok (.getfield 25, 3) := by decide +kernel
theorem dX6_result_80 : decode cX6_result 80 = .ok (.invokevirtual 113, 3) := by decide +kernel
theorem dX6_result_83 : decode cX6_result 83 = .ok (.ireturn, 1) := by decide +kernel
theorem dX6_result_84 : decode cX6_result 84 = .ok (.aload_n 0, 1) := by decide +kernel
theorem dX6_result_85 : decode cX6_result 85 = .ok (.getfield 25, 3) := by decide +kernel
theorem dX6_result_88 : decode cX6_result 88 = .ok (.invokevirtual 116, 3) := by decide +kernel
theorem dX6_result_91 : decode cX6_result 91 = .ok (.invokevirtual 120, 3) := by decide +kernel
theorem dX6_result_94 : decode cX6_result 94 = .ok (.ireturn, 1) := by decide +kernel
theorem dX6_result_95 : decode cX6_result 95 = .ok (.aload_n 0, 1) := by decide +kernel
theorem dX6_result_96 : decode cX6_result 96 = .ok (.getfield 25, 3) := by decide +kernel
theorem dX6_result_99 : decode cX6_result 99 = .ok (.invokevirtual 125, 3) := by decide +kernel
theorem dX6_result_102 : decode cX6_result 102 = .ok (.invokevirtual 129, 3) := by decide +kernel
theorem dX6_result_105 : decode cX6_result 105 = .ok (.ireturn, 1) := by decide +kernel
theorem dX6_result_106 : decode cX6_result 106 = .ok (.aload_n 0, 1) := by decide +kernel
theorem dX6_result_107 : decode cX6_result 107 = .ok (.getfield 25, 3) := by decide +kernel
theorem dX6_result_110 : decode cX6_result 110 = .ok (.invokevirtual 125, 3) := by decide +kernel
theorem dX6_result_113 : decode cX6_result 113 = .ok (.invokevirtual 132, 3) := by decide +kernel
theorem dX6_result_116 : decode cX6_result 116 = .ok (.ireturn, 1) := by decide +kernel
theorem dX6_result_117 : decode cX6_result 117 = .ok (.aload_n 0, 1) := by decide +kernel
theorem dX6_result_118 : decode cX6_result 118 = .ok (.getfield 25, 3) := by decide +kernel
theorem dX6_result_121 : decode cX6_result 121 = .ok (.invokevirtual 116, 3) := by decide +kernel
theorem dX6_result_124 : decode cX6_result 124 = .ok (.invokevirtual 135, 3) := by decide +kernel
theorem dX6_result_127 : decode cX6_result 127 = .ok (.ireturn, 1) := by decide +kernel
theorem dX6_result_128 : decode cX6_result 128 = .ok (.aload_n 0, 1) := by decide +kernel
theorem dX6_result_129 : decode cX6_result 129 = .ok (.getfield 25, 3) := by decide +kernel
theorem dX6_result_132 : decode cX6_result 132 = .ok (.invokevirtual 116, 3) := by decide +kernel
theorem dX6_result_135 : decode cX6_result 135 = .ok (.invokevirtual 138, 3) := by decide +kernel
theorem dX6_result_138 : decode cX6_result 138 = .ok (.ireturn, 1) := by decide +kernel
theorem dX6_result_139 : decode cX6_result 139 = .ok (.aload_n 0, 1) := by decide +kernel
theorem dX6_result_140 : decode cX6_result 140 = .ok (.getfield 25, 3) := by decide +kernel
theorem dX6_result_143 : decode cX6_result 143 = .ok (.invokevirtual 141, 3) := by decide +kernel
theorem dX6_result_146 : decode cX6_result 146 = .ok (.invokevirtual 91, 3) := by decide +kernel
theorem dX6_result_149 : decode cX6_result 149 = .ok (.ireturn, 1) := by decide +kernel
theorem dX6_result_150 : decode cX6_result 150 = .ok (.iload_n 2, 1) := by decide +kernel
theorem dX6_result_151 : decode cX6_result 151 = .ok (.ireturn, 1) := by decide +kernel
theorem dX6_delivered_0 : decode cX6_delivered 0 = .ok (.aload_n 0, 1) := by decide +kernel
theorem dX6_delivered_1 : decode cX6_delivered 1 = .ok (.getfield 25, 3) := by decide +kernel
theorem dX6_delivered_4 : decode cX6_delivered 4 = .ok (.aload_n 0, 1) := by decide +kernel
theorem dX6_delivered_5 : decode cX6_delivered 5 = .ok (.getfield 10, 3) := by decide +kernel
theorem dX6_delivered_8 : decode cX6_delivered 8 = .ok (.invokevirtual 109, 3) := by decide +kernel
theorem dX6_delivered_11 : decode cX6_delivered 11 = .ok (.pop, 1) := by decide +kernel
theorem dX6_delivered_12 : decode cX6_delivered 12 = .ok (.aload_n 0, 1) := by decide +kernel
theorem dX6_delivered_13 : decode cX6_delivered 13 = .ok (.getfield 25, 3) := by decide +kernel
theorem dX6_delivered_16 : decode cX6_delivered 16 = .ok (.invokevirtual 125, 3) := by decide +kernel
theorem dX6_delivered_19 : decode cX6_delivered 19 = .ok (.iload_n 1, 1) := by decide +kernel
theorem dX6_delivered_20 : decode cX6_delivered 20 = .ok (.invokevirtual 144, 3) := by decide +kernel
theorem dX6_delivered_23 : decode cX6_delivered 23 = .ok (.ireturn, 1) := by decide +kernel
theorem dX6_sent_0 : decode cX6_sent 0 = .ok (.iload_n 2, 1) := by decide +kernel
theorem dX6_sent_1 : decode cX6_sent 1 = .ok (.ifCond .lt 8, 3) := by decide +kernel
theorem dX6_sent_4 : decode cX6_sent 4 = .ok (.iload_n 2, 1) := by decide +kernel
theorem dX6_sent_5 : decode cX6_sent 5 = .ok (.iconst 4, 1) := by decide +kernel
theorem dX6_sent_6 : decode cX6_sent 6 = .ok (.if_icmp .le 13, 3) := by decide +kernel
theorem dX6_sent_9 : decode cX6_sent 9 = .ok (.new 59, 3) := by decide +kernel
theorem dX6_sent_12 : decode cX6_sent 12 = .ok (.dup, 1) := by decide +kernel
theorem dX6_sent_13 : decode cX6_sent 13 = .ok (.ldc 147, 2) := by decide +kernel
theorem dX6_sent_15 : decode cX6_sent 15 = .ok (.invokespecial 63, 3) := by decide +kernel
theorem dX6_sent_18 : decode cX6_sent 18 = .ok (.athrow, 1) := by decide +kernel
theorem dX6_sent_19 : decode cX6_sent 19 = .ok (.aload_n 0, 1) := by decide +kernel
theorem dX6_sent_20 : decode cX6_sent 20 = .ok (.getfield 25, 3) := by decide +kernel
theorem dX6_sent_23 : decode cX6_sent 23 = .ok (.aload_n 0, 1) := by decide +kernel
theorem dX6_sent_24 : decode cX6_sent 24 = .ok (.getfield 10, 3) := by decide +kernel
theorem dX6_sent_27 : decode cX6_sent 27 = .ok (.invokevirtual 109, 3) := by decide +kernel
theorem dX6_sent_30 : decode cX6_sent 30 = .ok (.pop, 1) := by decide +kernel
theorem dX6_sent_31 : decode cX6_sent 31 = .ok (.aload_n 0, 1) := by decide +kernel
theorem dX6_sent_32 : decode cX6_sent 32 = .ok (.getfield 25, 3) := by decide +kernel
theorem dX6_sent_35 : decode cX6_sent 35 = .ok (.invokevirtual 116, 3) := by decide +kernel
theorem dX6_sent_38 : decode cX6_sent 38 = .ok (.iload_n 1, 1) := by decide +kernel
theorem dX6_sent_39 : decode cX6_sent 39 = .ok (.iload_n 2, 1) := by decide +kernel
theorem dX6_sent_40 : decode cX6_sent 40 = .ok (.invokevirtual 149, 3) := by decide +kernel
theorem dX6_sent_43 : decode cX6_sent 43 = .ok (.ireturn, 1) := by decide +kernel
theorem dX6_breaks_0 : decode cX6_breaks 0 = .ok (.iload_n 1, 1) := by decide +kernel
theorem dX6_breaks_1 : decode cX6_breaks 1 = .ok (.invokestatic 152, 3) := by decide +kernel
theorem dX6_breaks_4 : decode cX6_breaks 4 = .ok (.aload_n 0, 1) := by decide +kernel
theorem dX6_breaks_5 : decode cX6_breaks 5 = .ok (.aload_n 0, 1) := by decide +kernel
theorem dX6_breaks_6 : decode cX6_breaks 6 = .ok (.getfield 10, 3) := by decide +kernel
theorem dX6_breaks_9 : decode cX6_breaks 9 = .ok (.iload_n 1, 1) := by decide +kernel
theorem dX6_breaks_10 : decode cX6_breaks 10 = .ok (.invokevirtual 155, 3) := by decide +kernel
theorem dX6_breaks_13 : decode cX6_breaks 13 = .ok (.ireturn, 1) := by decide +kernel
theorem dX6_reaches_0 : decode cX6_reaches 0 = .ok (.aload_n 0, 1) := by decide +kernel
theorem dX6_reaches_1 : decode cX6_reaches 1 = .ok (.getfield 25, 3) := by decide +kernel
theorem dX6_reaches_4 : decode cX6_reaches 4 = .ok (.aload_n 0, 1) := by decide +kernel
theorem dX6_reaches_5 : decode cX6_reaches 5 = .ok (.getfield 10, 3) := by decide +kernel
theorem dX6_reaches_8 : decode cX6_reaches 8 = .ok (.invokevirtual 109, 3) := by decide +kernel
theorem dX6_reaches_11 : decode cX6_reaches 11 = .ok (.pop, 1) := by decide +kernel
theorem dX6_reaches_12 : decode cX6_reaches 12 = .ok (.aload_n 0, 1) := by decide +kernel
theorem dX6_reaches_13 : decode cX6_reaches 13 = .ok (.getfield 25, 3) := by decide +kernel
theorem dX6_reaches_16 : decode cX6_reaches 16 = .ok (.invokevirtual 141, 3) := by decide +kernel
theorem dX6_reaches_19 : decode cX6_reaches 19 = .ok (.iload_n 1, 1) := by decide +kernel
theorem dX6_reaches_20 : decode cX6_reaches 20 = .ok (.iload_n 2, 1) := by decide +kernel
theorem dX6_reaches_21 : decode cX6_reaches 21 = .ok (.invokevirtual 159, 3) := by decide +kernel
theorem dX6_reaches_24 : decode cX6_reaches 24 = .ok (.ireturn, 1) := by decide +kernel
theorem dX6_matters_0 : decode cX6_matters 0 = .ok (.aload_n 0, 1) := by decide +kernel
theorem dX6_matters_1 : decode cX6_matters 1 = .ok (.iload_n 1, 1) := by decide +kernel
theorem dX6_matters_2 : decode cX6_matters 2 = .ok (.invokevirtual 98, 3) := by decide +kernel
theorem dX6_matters_5 : decode cX6_matters 5 = .ok (.iload_n 2, 1) := by decide +kernel
theorem dX6_matters_6 : decode cX6_matters 6 = .ok (.invokestatic 152, 3) := by decide +kernel
theorem dX6_matters_9 : decode cX6_matters 9 = .ok (.aload_n 0, 1) := by decide +kernel
theorem dX6_matters_10 : decode cX6_matters 10 = .ok (.aload_n 0, 1) := by decide +kernel
theorem dX6_matters_11 : decode cX6_matters 11 = .ok (.getfield 10, 3) := by decide +kernel
theorem dX6_matters_14 : decode cX6_matters 14 = .ok (.iload_n 2, 1) := by decide +kernel
theorem dX6_matters_15 : decode cX6_matters 15 = .ok (.invokevirtual 155, 3) := by decide +kernel
theorem dX6_matters_18 : decode cX6_matters 18 = .ok (.ifCond .ne 5, 3) := by decide +kernel
theorem dX6_matters_21 : decode cX6_matters 21 = .ok (.iconst 0, 1) := by decide +kernel
theorem dX6_matters_22 : decode cX6_matters 22 = .ok (.ireturn, 1) := by decide +kernel
theorem dX6_matters_23 : decode cX6_matters 23 = .ok (.aload_n 0, 1) := by decide +kernel
theorem dX6_matters_24 : decode cX6_matters 24 = .ok (.getfield 19, 3) := by decide +kernel
theorem dX6_matters_27 : decode cX6_matters 27 = .ok (.aload_n 0, 1) := by decide +kernel
theorem dX6_matters_28 : decode cX6_matters 28 = .ok (.getfield 10, 3) := by decide +kernel
theorem dX6_matters_31 : decode cX6_matters 31 = .ok (.invokevirtual 74, 3) := by decide +kernel
theorem dX6_matters_34 : decode cX6_matters 34 = .ok (.aload_n 0, 1) := by decide +kernel
theorem dX6_matters_35 : decode cX6_matters 35 = .ok (.getfield 19, 3) := by decide +kernel
theorem dX6_matters_38 : decode cX6_matters 38 = .ok (.iload_n 1, 1) := by decide +kernel
theorem dX6_matters_39 : decode cX6_matters 39 = .ok (.invokevirtual 163, 3) := by decide +kernel
theorem dX6_matters_42 : decode cX6_matters 42 = .ok (.aload_n 0, 1) := by decide +kernel
theorem dX6_matters_43 : decode cX6_matters 43 = .ok (.aload_n 0, 1) := by decide +kernel
theorem dX6_matters_44 : decode cX6_matters 44 = .ok (.getfield 19, 3) := by decide +kernel
theorem dX6_matters_47 : decode cX6_matters 47 = .ok (.iload_n 2, 1) := by decide +kernel
theorem dX6_matters_48 : decode cX6_matters 48 = .ok (.invokevirtual 155, 3) := by decide +kernel
theorem dX6_matters_51 : decode cX6_matters 51 = .ok (.ifCond .ne 7, 3) := by decide +kernel
theorem dX6_matters_54 : decode cX6_matters 54 = .ok (.iconst 1, 1) := by decide +kernel
theorem dX6_matters_55 : decode cX6_matters 55 = .ok (.goto 4, 3) := by decide +kernel
theorem dX6_matters_58 : decode cX6_matters 58 = .ok (.iconst 0, 1) := by decide +kernel
theorem dX6_matters_59 : decode cX6_matters 59 = .ok (.ireturn, 1) := by decide +kernel
theorem dX6_smallest_0 : decode cX6_smallest 0 = .ok (.iload_n 1, 1) := by decide +kernel
theorem dX6_smallest_1 : decode cX6_smallest 1 = .ok (.invokestatic 152, 3) := by decide +kernel
theorem dX6_smallest_4 : decode cX6_smallest 4 = .ok (.aload_n 0, 1) := by decide +kernel
theorem dX6_smallest_5 : decode cX6_smallest 5 = .ok (.iload_n 1, 1) := by decide +kernel
theorem dX6_smallest_6 : decode cX6_smallest 6 = .ok (.invokevirtual 166, 3) := by decide +kernel
theorem dX6_smallest_9 : decode cX6_smallest 9 = .ok (.istore_n 2, 1) := by decide +kernel
theorem dX6_smallest_10 : decode cX6_smallest 10 = .ok (.iload_n 2, 1) := by decide +kernel
theorem dX6_smallest_11 : decode cX6_smallest 11 = .ok (.iconst (-1), 1) := by decide +kernel
theorem dX6_smallest_12 : decode cX6_smallest 12 = .ok (.if_icmp .ne 7, 3) := by decide +kernel
theorem dX6_smallest_15 : decode cX6_smallest 15 = .ok (.iconst (-1), 1) := by decide +kernel
theorem dX6_smallest_16 : decode cX6_smallest 16 = .ok (.goto 7, 3) := by decide +kernel
theorem dX6_smallest_19 : decode cX6_smallest 19 = .ok (.iload_n 2, 1) := by decide +kernel
theorem dX6_smallest_20 : decode cX6_smallest 20 = .ok (.invokestatic 169, 3) := by decide +kernel
theorem dX6_smallest_23 : decode cX6_smallest 23 = .ok (.ireturn, 1) := by decide +kernel
theorem dX6_core_0 : decode cX6_core 0 = .ok (.iload_n 1, 1) := by decide +kernel
theorem dX6_core_1 : decode cX6_core 1 = .ok (.invokestatic 152, 3) := by decide +kernel
theorem dX6_core_4 : decode cX6_core 4 = .ok (.aload_n 0, 1) := by decide +kernel
theorem dX6_core_5 : decode cX6_core 5 = .ok (.iload_n 1, 1) := by decide +kernel
theorem dX6_core_6 : decode cX6_core 6 = .ok (.invokevirtual 166, 3) := by decide +kernel
theorem dX6_core_9 : decode cX6_core 9 = .ok (.ireturn, 1) := by decide +kernel
theorem dX6_leastAmount_0 : decode cX6_leastAmount 0 = .ok (.aload_n 0, 1) := by decide +kernel
theorem dX6_leastAmount_1 : decode cX6_leastAmount 1 = .ok (.iload_n 1, 1) := by decide +kernel
theorem dX6_leastAmount_2 : decode cX6_leastAmount 2 = .ok (.invokevirtual 98, 3) := by decide +kernel
theorem dX6_leastAmount_5 : decode cX6_leastAmount 5 = .ok (.iload_n 2, 1) := by decide +kernel
theorem dX6_leastAmount_6 : decode cX6_leastAmount 6 = .ok (.invokestatic 152, 3) := by decide +kernel
theorem dX6_leastAmount_9 : decode cX6_leastAmount 9 = .ok (.aload_n 0, 1) := by decide +kernel
theorem dX6_leastAmount_10 : decode cX6_leastAmount 10 = .ok (.iload_n 1, 1) := by decide +kernel
theorem dX6_leastAmount_11 : decode cX6_leastAmount 11 = .ok (.iload_n 2, 1) := by decide +kernel
theorem dX6_leastAmount_12 : decode cX6_leastAmount 12 = .ok (.invokevirtual 174, 3) := by decide +kernel
theorem dX6_leastAmount_15 : decode cX6_leastAmount 15 = .ok (.ireturn, 1) := by decide +kernel
theorem dX6_attack_0 : decode cX6_attack 0 = .ok (.iload_n 1, 1) := by decide +kernel
theorem dX6_attack_1 : decode cX6_attack 1 = .ok (.invokestatic 152, 3) := by decide +kernel
theorem dX6_attack_4 : decode cX6_attack 4 = .ok (.iload_n 2, 1) := by decide +kernel
theorem dX6_attack_5 : decode cX6_attack 5 = .ok (.ifCond .lt 8, 3) := by decide +kernel
theorem dX6_attack_8 : decode cX6_attack 8 = .ok (.iload_n 2, 1) := by decide +kernel
theorem dX6_attack_9 : decode cX6_attack 9 = .ok (.iconst 2, 1) := by decide +kernel
theorem dX6_attack_10 : decode cX6_attack 10 = .ok (.if_icmp .le 13, 3) := by decide +kernel
theorem dX6_attack_13 : decode cX6_attack 13 = .ok (.new 59, 3) := by decide +kernel
theorem dX6_attack_16 : decode cX6_attack 16 = .ok (.dup, 1) := by decide +kernel
theorem dX6_attack_17 : decode cX6_attack 17 = .ok (.ldc 101, 2) := by decide +kernel
theorem dX6_attack_19 : decode cX6_attack 19 = .ok (.invokespecial 63, 3) := by decide +kernel
theorem dX6_attack_22 : decode cX6_attack 22 = .ok (.athrow, 1) := by decide +kernel
theorem dX6_attack_23 : decode cX6_attack 23 = .ok (.aload_n 0, 1) := by decide +kernel
theorem dX6_attack_24 : decode cX6_attack 24 = .ok (.iload_n 1, 1) := by decide +kernel
theorem dX6_attack_25 : decode cX6_attack 25 = .ok (.invokevirtual 177, 3) := by decide +kernel
theorem dX6_attack_28 : decode cX6_attack 28 = .ok (.ifCond .eq 5, 3) := by decide +kernel
theorem dX6_attack_31 : decode cX6_attack 31 = .ok (.iconst (-1), 1) := by decide +kernel
theorem dX6_attack_32 : decode cX6_attack 32 = .ok (.ireturn, 1) := by decide +kernel
theorem dX6_attack_33 : decode cX6_attack 33 = .ok (.aload_n 0, 1) := by decide +kernel
theorem dX6_attack_34 : decode cX6_attack 34 = .ok (.iload_n 1, 1) := by decide +kernel
theorem dX6_attack_35 : decode cX6_attack 35 = .ok (.aload_n 0, 1) := by decide +kernel
theorem dX6_attack_36 : decode cX6_attack 36 = .ok (.getfield 25, 3) := by decide +kernel
theorem dX6_attack_39 : decode cX6_attack 39 = .ok (.invokevirtual 116, 3) := by decide +kernel
theorem dX6_attack_42 : decode cX6_attack 42 = .ok (.invokevirtual 120, 3) := by decide +kernel
theorem dX6_attack_45 : decode cX6_attack 45 = .ok (.invokevirtual 181, 3) := by decide +kernel
theorem dX6_attack_48 : decode cX6_attack 48 = .ok (.ifCond .eq 15, 3) := by decide +kernel
theorem dX6_attack_51 : decode cX6_attack 51 = .ok (.aload_n 0, 1) := by decide +kernel
theorem dX6_attack_52 : decode cX6_attack 52 = .ok (.getfield 19, 3) := by decide +kernel
theorem dX6_attack_55 : decode cX6_attack 55 = .ok (.iconst 0, 1) := by decide +kernel
theorem dX6_attack_56 : decode cX6_attack 56 = .ok (.iload_n 2, 1) := by decide +kernel
theorem dX6_attack_57 : decode cX6_attack 57 = .ok (.invokevirtual 103, 3) := by decide +kernel
theorem dX6_attack_60 : decode cX6_attack 60 = .ok (.goto 4, 3) := by decide +kernel
theorem dX6_attack_63 : decode cX6_attack 63 = .ok (.iconst (-1), 1) := by decide +kernel
theorem dX6_attack_64 : decode cX6_attack 64 = .ok (.ireturn, 1) := by decide +kernel
theorem dX6_weakPoints_0 : decode cX6_weakPoints 0 = .ok (.iload_n 1, 1) := by decide +kernel
theorem dX6_weakPoints_1 : decode cX6_weakPoints 1 = .ok (.invokestatic 152, 3) := by decide +kernel
theorem dX6_weakPoints_4 : decode cX6_weakPoints 4 = .ok (.aload_n 0, 1) := by decide +kernel
theorem dX6_weakPoints_5 : decode cX6_weakPoints 5 = .ok (.iload_n 1, 1) := by decide +kernel
theorem dX6_weakPoints_6 : decode cX6_weakPoints 6 = .ok (.invokevirtual 177, 3) := by decide +kernel
theorem dX6_weakPoints_9 : decode cX6_weakPoints 9 = .ok (.ifCond .eq 5, 3) := by decide +kernel
theorem dX6_weakPoints_12 : decode cX6_weakPoints 12 = .ok (.iconst 0, 1) := by decide +kernel
theorem dX6_weakPoints_13 : decode cX6_weakPoints 13 = .ok (.ireturn, 1) := by decide +kernel
theorem dX6_weakPoints_14 : decode cX6_weakPoints 14 = .ok (.aload_n 0, 1) := by decide +kernel
theorem dX6_weakPoints_15 : decode cX6_weakPoints 15 = .ok (.getfield 25, 3) := by decide +kernel
theorem dX6_weakPoints_18 : decode cX6_weakPoints 18 = .ok (.invokevirtual 116, 3) := by decide +kernel
theorem dX6_weakPoints_21 : decode cX6_weakPoints 21 = .ok (.invokevirtual 120, 3) := by decide +kernel
theorem dX6_weakPoints_24 : decode cX6_weakPoints 24 = .ok (.istore_n 2, 1) := by decide +kernel
theorem dX6_weakPoints_25 : decode cX6_weakPoints 25 = .ok (.iconst 0, 1) := by decide +kernel
theorem dX6_weakPoints_26 : decode cX6_weakPoints 26 = .ok (.istore_n 3, 1) := by decide +kernel
theorem dX6_weakPoints_27 : decode cX6_weakPoints 27 = .ok (.iconst 0, 1) := by decide +kernel
theorem dX6_weakPoints_28 : decode cX6_weakPoints 28 = .ok (.istore 4, 2) := by decide +kernel
theorem dX6_weakPoints_30 : decode cX6_weakPoints 30 = .ok (.iload 4, 2) := by decide +kernel
theorem dX6_weakPoints_32 : decode cX6_weakPoints 32 = .ok (.iload_n 2, 1) := by decide +kernel
theorem dX6_weakPoints_33 : decode cX6_weakPoints 33 = .ok (.if_icmp .ge 35, 3) := by decide +kernel
theorem dX6_weakPoints_36 : decode cX6_weakPoints 36 = .ok (.aload_n 0, 1) := by decide +kernel
theorem dX6_weakPoints_37 : decode cX6_weakPoints 37 = .ok (.getfield 19, 3) := by decide +kernel
theorem dX6_weakPoints_40 : decode cX6_weakPoints 40 = .ok (.iconst 0, 1) := by decide +kernel
theorem dX6_weakPoints_41 : decode cX6_weakPoints 41 = .ok (.iload 4, 2) := by decide +kernel
theorem dX6_weakPoints_43 : decode cX6_weakPoints 43 = .ok (.iconst 0, 1) := by decide +kernel
theorem dX6_weakPoints_44 : decode cX6_weakPoints 44 = .ok (.invokevirtual 184, 3) := by decide +kernel
theorem dX6_weakPoints_47 : decode cX6_weakPoints 47 = .ok (.aload_n 0, 1) := by decide +kernel
theorem dX6_weakPoints_48 : decode cX6_weakPoints 48 = .ok (.aload_n 0, 1) := by decide +kernel
theorem dX6_weakPoints_49 : decode cX6_weakPoints 49 = .ok (.getfield 19, 3) := by decide +kernel
theorem dX6_weakPoints_52 : decode cX6_weakPoints 52 = .ok (.iload_n 1, 1) := by decide +kernel
theorem dX6_weakPoints_53 : decode cX6_weakPoints 53 = .ok (.invokevirtual 155, 3) := by decide +kernel
theorem dX6_weakPoints_56 : decode cX6_weakPoints 56 = .ok (.ifCond .eq 6, 3) := by decide +kernel
theorem dX6_weakPoints_59 : decode cX6_weakPoints 59 = .ok (.iinc 3 1, 3) := by decide +kernel
theorem dX6_weakPoints_62 : decode cX6_weakPoints 62 = .ok (.iinc 4 1, 3) := by decide +kernel
theorem dX6_weakPoints_65 : decode cX6_weakPoints 65 = .ok (.goto (-35), 3) := by decide +kernel
theorem dX6_weakPoints_68 : decode cX6_weakPoints 68 = .ok (.iload_n 3, 1) := by decide +kernel
theorem dX6_weakPoints_69 : decode cX6_weakPoints 69 = .ok (.ireturn, 1) := by decide +kernel
theorem dX6_timerFor_0 : decode cX6_timerFor 0 = .ok (.iload_n 1, 1) := by decide +kernel
theorem dX6_timerFor_1 : decode cX6_timerFor 1 = .ok (.invokestatic 152, 3) := by decide +kernel
theorem dX6_timerFor_4 : decode cX6_timerFor 4 = .ok (.aload_n 0, 1) := by decide +kernel
theorem dX6_timerFor_5 : decode cX6_timerFor 5 = .ok (.getfield 19, 3) := by decide +kernel
theorem dX6_timerFor_8 : decode cX6_timerFor 8 = .ok (.aload_n 0, 1) := by decide +kernel
theorem dX6_timerFor_9 : decode cX6_timerFor 9 = .ok (.getfield 10, 3) := by decide +kernel
theorem dX6_timerFor_12 : decode cX6_timerFor 12 = .ok (.invokevirtual 74, 3) := by decide +kernel
theorem dX6_timerFor_15 : decode cX6_timerFor 15 = .ok (.getstatic 188, 3) := by decide +kernel
theorem dX6_timerFor_18 : decode cX6_timerFor 18 = .ok (.iconst 4, 1) := by decide +kernel
theorem dX6_timerFor_19 : decode cX6_timerFor 19 = .ok (.iaload, 1) := by decide +kernel
theorem dX6_timerFor_20 : decode cX6_timerFor 20 = .ok (.istore_n 2, 1) := by decide +kernel
theorem dX6_timerFor_21 : decode cX6_timerFor 21 = .ok (.iload_n 2, 1) := by decide +kernel
theorem dX6_timerFor_22 : decode cX6_timerFor 22 = .ok (.getstatic 192, 3) := by decide +kernel
theorem dX6_timerFor_25 : decode cX6_timerFor 25 = .ok (.iconst 4, 1) := by decide +kernel
theorem dX6_timerFor_26 : decode cX6_timerFor 26 = .ok (.iaload, 1) := by decide +kernel
theorem dX6_timerFor_27 : decode cX6_timerFor 27 = .ok (.if_icmp .gt 32, 3) := by decide +kernel
theorem dX6_timerFor_30 : decode cX6_timerFor 30 = .ok (.aload_n 0, 1) := by decide +kernel
theorem dX6_timerFor_31 : decode cX6_timerFor 31 = .ok (.getfield 19, 3) := by decide +kernel
theorem dX6_timerFor_34 : decode cX6_timerFor 34 = .ok (.iconst 4, 1) := by decide +kernel
theorem dX6_timerFor_35 : decode cX6_timerFor 35 = .ok (.iload_n 2, 1) := by decide +kernel
theorem dX6_timerFor_36 : decode cX6_timerFor 36 = .ok (.invokevirtual 195, 3) := by decide +kernel
theorem dX6_timerFor_39 : decode cX6_timerFor 39 = .ok (.aload_n 0, 1) := by decide +kernel
theorem dX6_timerFor_40 : decode cX6_timerFor 40 = .ok (.aload_n 0, 1) := by decide +kernel
theorem dX6_timerFor_41 : decode cX6_timerFor 41 = .ok (.getfield 19, 3) := by decide +kernel
theorem dX6_timerFor_44 : decode cX6_timerFor 44 = .ok (.iload_n 1, 1) := by decide +kernel
theorem dX6_timerFor_45 : decode cX6_timerFor 45 = .ok (.invokevirtual 155, 3) := by decide +kernel
theorem dX6_timerFor_48 : decode cX6_timerFor 48 = .ok (.ifCond .ne 5, 3) := by decide +kernel
theorem dX6_timerFor_51 : decode cX6_timerFor 51 = .ok (.iload_n 2, 1) := by decide +kernel
theorem dX6_timerFor_52 : decode cX6_timerFor 52 = .ok (.ireturn, 1) := by decide +kernel
theorem dX6_timerFor_53 : decode cX6_timerFor 53 = .ok (.iinc 2 1, 3) := by decide +kernel
theorem dX6_timerFor_56 : decode cX6_timerFor 56 = .ok (.goto (-35), 3) := by decide +kernel
theorem dX6_timerFor_59 : decode cX6_timerFor 59 = .ok (.iconst (-1), 1) := by decide +kernel
theorem dX6_timerFor_60 : decode cX6_timerFor 60 = .ok (.ireturn, 1) := by decide +kernel
theorem dX6_isRecorded_0 : decode cX6_isRecorded 0 = .ok (.aload_n 0, 1) := by decide +kernel
theorem dX6_isRecorded_1 : decode cX6_isRecorded 1 = .ok (.getfield 10, 3) := by decide +kernel
theorem dX6_isRecorded_4 : decode cX6_isRecorded 4 = .ok (.invokevirtual 87, 3) := by decide +kernel
theorem dX6_isRecorded_7 : decode cX6_isRecorded 7 = .ok (.iload_n 1, 1) := by decide +kernel
theorem dX6_isRecorded_8 : decode cX6_isRecorded 8 = .ok (.iload_n 2, 1) := by decide +kernel
theorem dX6_isRecorded_9 : decode cX6_isRecorded 9 = .ok (.invokevirtual 159, 3) := by decide +kernel
theorem dX6_isRecorded_12 : decode cX6_isRecorded 12 = .ok (.ireturn, 1) := by decide +kernel
theorem dX6_addFault_0 : decode cX6_addFault 0 = .ok (.iload_n 1, 1) := by decide +kernel
theorem dX6_addFault_1 : decode cX6_addFault 1 = .ok (.iload_n 2, 1) := by decide +kernel
theorem dX6_addFault_2 : decode cX6_addFault 2 = .ok (.iload_n 3, 1) := by decide +kernel
theorem dX6_addFault_3 : decode cX6_addFault 3 = .ok (.invokestatic 199, 3) := by decide +kernel
theorem dX6_addFault_6 : decode cX6_addFault 6 = .ok (.ifCond .ne 13, 3) := by decide +kernel
theorem dX6_addFault_9 : decode cX6_addFault 9 = .ok (.new 59, 3) := by decide +kernel
theorem dX6_addFault_12 : decode cX6_addFault 12 = .ok (.dup, 1) := by decide +kernel
theorem dX6_addFault_13 : decode cX6_addFault 13 = .ok (.ldc 203, 2) := by decide +kernel
theorem dX6_addFault_15 : decode cX6_addFault 15 = .ok (.invokespecial 63, 3) := by decide +kernel
theorem dX6_addFault_18 : decode cX6_addFault 18 = .ok (.athrow, 1) := by decide +kernel
theorem dX6_addFault_19 : decode cX6_addFault 19 = .ok (.aload_n 0, 1) := by decide +kernel
theorem dX6_addFault_20 : decode cX6_addFault 20 = .ok (.getfield 10, 3) := by decide +kernel
theorem dX6_addFault_23 : decode cX6_addFault 23 = .ok (.invokevirtual 84, 3) := by decide +kernel
theorem dX6_addFault_26 : decode cX6_addFault 26 = .ok (.bipush 10, 2) := by decide +kernel
theorem dX6_addFault_28 : decode cX6_addFault 28 = .ok (.if_icmp .ge 16, 3) := by decide +kernel
theorem dX6_addFault_31 : decode cX6_addFault 31 = .ok (.aload_n 0, 1) := by decide +kernel
theorem dX6_addFault_32 : decode cX6_addFault 32 = .ok (.getfield 10, 3) := by decide +kernel
theorem dX6_addFault_35 : decode cX6_addFault 35 = .ok (.iload_n 1, 1) := by decide +kernel
theorem dX6_addFault_36 : decode cX6_addFault 36 = .ok (.iload_n 2, 1) := by decide +kernel
theorem dX6_addFault_37 : decode cX6_addFault 37 = .ok (.invokevirtual 205, 3) := by decide +kernel
theorem dX6_addFault_40 : decode cX6_addFault 40 = .ok (.iconst (-1), 1) := by decide +kernel
theorem dX6_addFault_41 : decode cX6_addFault 41 = .ok (.if_icmp .eq 13, 3) := by decide +kernel
theorem dX6_addFault_44 : decode cX6_addFault 44 = .ok (.new 208, 3) := by decide +kernel
theorem dX6_addFault_47 : decode cX6_addFault 47 = .ok (.dup, 1) := by decide +kernel
theorem dX6_addFault_48 : decode cX6_addFault 48 = .ok (.ldc 210, 2) := by decide +kernel
theorem dX6_addFault_50 : decode cX6_addFault 50 = .ok (.invokespecial 212, 3) := by decide +kernel
theorem dX6_addFault_53 : decode cX6_addFault 53 = .ok (.athrow, 1) := by decide +kernel
theorem dX6_addFault_54 : decode cX6_addFault 54 = .ok (.aload_n 0, 1) := by decide +kernel
theorem dX6_addFault_55 : decode cX6_addFault 55 = .ok (.invokevirtual 213, 3) := by decide +kernel
theorem dX6_addFault_58 : decode cX6_addFault 58 = .ok (.aload_n 0, 1) := by decide +kernel
theorem dX6_addFault_59 : decode cX6_addFault 59 = .ok (.getfield 10, 3) := by decide +kernel
theorem dX6_addFault_62 : decode cX6_addFault 62 = .ok (.iload_n 1, 1) := by decide +kernel
theorem dX6_addFault_63 : decode cX6_addFault 63 = .ok (.iload_n 2, 1) := by decide +kernel
theorem dX6_addFault_64 : decode cX6_addFault 64 = .ok (.iload_n 3, 1) := by decide +kernel
theorem dX6_addFault_65 : decode cX6_addFault 65 = .ok (.invokevirtual 216, 3) := by decide +kernel
theorem dX6_addFault_68 : decode cX6_addFault 68 = .ok (.ireturn, 1) := by decide +kernel
theorem dX6_removeFault_0 : decode cX6_removeFault 0 = .ok (.aload_n 0, 1) := by decide +kernel
theorem dX6_removeFault_1 : decode cX6_removeFault 1 = .ok (.iload_n 1, 1) := by decide +kernel
theorem dX6_removeFault_2 : decode cX6_removeFault 2 = .ok (.invokevirtual 98, 3) := by decide +kernel
theorem dX6_removeFault_5 : decode cX6_removeFault 5 = .ok (.aload_n 0, 1) := by decide +kernel
theorem dX6_removeFault_6 : decode cX6_removeFault 6 = .ok (.invokevirtual 213, 3) := by decide +kernel
theorem dX6_removeFault_9 : decode cX6_removeFault 9 = .ok (.aload_n 0, 1) := by decide +kernel
theorem dX6_removeFault_10 : decode cX6_removeFault 10 = .ok (.getfield 10, 3) := by decide +kernel
theorem dX6_removeFault_13 : decode cX6_removeFault 13 = .ok (.iload_n 1, 1) := by decide +kernel
theorem dX6_removeFault_14 : decode cX6_removeFault 14 = .ok (.invokevirtual 163, 3) := by decide +kernel
theorem dX6_removeFault_17 : decode cX6_removeFault 17 = .ok (.aload_n 0, 1) := by decide +kernel
theorem dX6_removeFault_18 : decode cX6_removeFault 18 = .ok (.getfield 10, 3) := by decide +kernel
theorem dX6_removeFault_21 : decode cX6_removeFault 21 = .ok (.invokevirtual 84, 3) := by decide +kernel
theorem dX6_removeFault_24 : decode cX6_removeFault 24 = .ok (.ireturn, 1) := by decide +kernel
theorem dX6_clearFaults_0 : decode cX6_clearFaults 0 = .ok (.aload_n 0, 1) := by decide +kernel
theorem dX6_clearFaults_1 : decode cX6_clearFaults 1 = .ok (.invokevirtual 213, 3) := by decide +kernel
theorem dX6_clearFaults_4 : decode cX6_clearFaults 4 = .ok (.aload_n 0, 1) := by decide +kernel
theorem dX6_clearFaults_5 : decode cX6_clearFaults 5 = .ok (.getfield 10, 3) := by decide +kernel
theorem dX6_clearFaults_8 : decode cX6_clearFaults 8 = .ok (.invokevirtual 84, 3) := by decide +kernel
theorem dX6_clearFaults_11 : decode cX6_clearFaults 11 = .ok (.istore_n 1, 1) := by decide +kernel
theorem dX6_clearFaults_12 : decode cX6_clearFaults 12 = .ok (.aload_n 0, 1) := by decide +kernel
theorem dX6_clearFaults_13 : decode cX6_clearFaults 13 = .ok (.getfield 10, 3) := by decide +kernel
theorem dX6_clearFaults_16 : decode cX6_clearFaults 16 = .ok (.invokevirtual 220, 3) := by decide +kernel
theorem dX6_clearFaults_19 : decode cX6_clearFaults 19 = .ok (.iload_n 1, 1) := by decide +kernel
theorem dX6_clearFaults_20 : decode cX6_clearFaults 20 = .ok (.ireturn, 1) := by decide +kernel
theorem dX6_set_0 : decode cX6_set 0 = .ok (.iload_n 1, 1) := by decide +kernel
theorem dX6_set_1 : decode cX6_set 1 = .ok (.ifCond .lt 9, 3) := by decide +kernel
theorem dX6_set_4 : decode cX6_set 4 = .ok (.iload_n 1, 1) := by decide +kernel
theorem dX6_set_5 : decode cX6_set 5 = .ok (.bipush 8, 2) := by decide +kernel
theorem dX6_set_7 : decode cX6_set 7 = .ok (.if_icmp .lt 13, 3) := by decide +kernel
theorem dX6_set_10 : decode cX6_set 10 = .ok (.new 59, 3) := by decide +kernel
theorem dX6_set_13 : decode cX6_set 13 = .ok (.dup, 1) := by decide +kernel
theorem dX6_set_14 : decode cX6_set 14 = .ok (.ldc 107, 2) := by decide +kernel
theorem dX6_set_16 : decode cX6_set 16 = .ok (.invokespecial 63, 3) := by decide +kernel
theorem dX6_set_19 : decode cX6_set 19 = .ok (.athrow, 1) := by decide +kernel
theorem dX6_set_20 : decode cX6_set 20 = .ok (.iload_n 2, 1) := by decide +kernel
theorem dX6_set_21 : decode cX6_set 21 = .ok (.getstatic 188, 3) := by decide +kernel
theorem dX6_set_24 : decode cX6_set 24 = .ok (.iload_n 1, 1) := by decide +kernel
theorem dX6_set_25 : decode cX6_set 25 = .ok (.iaload, 1) := by decide +kernel
theorem dX6_set_26 : decode cX6_set 26 = .ok (.if_icmp .lt 12, 3) := by decide +kernel
theorem dX6_set_29 : decode cX6_set 29 = .ok (.iload_n 2, 1) := by decide +kernel
theorem dX6_set_30 : decode cX6_set 30 = .ok (.getstatic 192, 3) := by decide +kernel
theorem dX6_set_33 : decode cX6_set 33 = .ok (.iload_n 1, 1) := by decide +kernel
theorem dX6_set_34 : decode cX6_set 34 = .ok (.iaload, 1) := by decide +kernel
theorem dX6_set_35 : decode cX6_set 35 = .ok (.if_icmp .le 13, 3) := by decide +kernel
theorem dX6_set_38 : decode cX6_set 38 = .ok (.new 59, 3) := by decide +kernel
theorem dX6_set_41 : decode cX6_set 41 = .ok (.dup, 1) := by decide +kernel
theorem dX6_set_42 : decode cX6_set 42 = .ok (.ldc 223, 2) := by decide +kernel
theorem dX6_set_44 : decode cX6_set 44 = .ok (.invokespecial 63, 3) := by decide +kernel
theorem dX6_set_47 : decode cX6_set 47 = .ok (.athrow, 1) := by decide +kernel
theorem dX6_set_48 : decode cX6_set 48 = .ok (.aload_n 0, 1) := by decide +kernel
theorem dX6_set_49 : decode cX6_set 49 = .ok (.invokevirtual 213, 3) := by decide +kernel
theorem dX6_set_52 : decode cX6_set 52 = .ok (.aload_n 0, 1) := by decide +kernel
theorem dX6_set_53 : decode cX6_set 53 = .ok (.getfield 10, 3) := by decide +kernel
theorem dX6_set_56 : decode cX6_set 56 = .ok (.iload_n 1, 1) := by decide +kernel
theorem dX6_set_57 : decode cX6_set 57 = .ok (.invokevirtual 81, 3) := by decide +kernel
theorem dX6_set_60 : decode cX6_set 60 = .ok (.istore_n 3, 1) := by decide +kernel
theorem dX6_set_61 : decode cX6_set 61 = .ok (.aload_n 0, 1) := by decide +kernel
theorem dX6_set_62 : decode cX6_set 62 = .ok (.getfield 10, 3) := by decide +kernel
theorem dX6_set_65 : decode cX6_set 65 = .ok (.iload_n 1, 1) := by decide +kernel
theorem dX6_set_66 : decode cX6_set 66 = .ok (.iload_n 2, 1) := by decide +kernel
theorem dX6_set_67 : decode cX6_set 67 = .ok (.invokevirtual 195, 3) := by decide +kernel
theorem dX6_set_70 : decode cX6_set 70 = .ok (.iload_n 3, 1) := by decide +kernel
theorem dX6_set_71 : decode cX6_set 71 = .ok (.ireturn, 1) := by decide +kernel
theorem dX6_shrink_0 : decode cX6_shrink 0 = .ok (.iload_n 1, 1) := by decide +kernel
theorem dX6_shrink_1 : decode cX6_shrink 1 = .ok (.invokestatic 152, 3) := by decide +kernel
theorem dX6_shrink_4 : decode cX6_shrink 4 = .ok (.aload_n 0, 1) := by decide +kernel
theorem dX6_shrink_5 : decode cX6_shrink 5 = .ok (.iload_n 1, 1) := by decide +kernel
theorem dX6_shrink_6 : decode cX6_shrink 6 = .ok (.invokevirtual 166, 3) := by decide +kernel
theorem dX6_shrink_9 : decode cX6_shrink 9 = .ok (.istore_n 2, 1) := by decide +kernel
theorem dX6_shrink_10 : decode cX6_shrink 10 = .ok (.iload_n 2, 1) := by decide +kernel
theorem dX6_shrink_11 : decode cX6_shrink 11 = .ok (.iconst (-1), 1) := by decide +kernel
theorem dX6_shrink_12 : decode cX6_shrink 12 = .ok (.if_icmp .ne 13, 3) := by decide +kernel
theorem dX6_shrink_15 : decode cX6_shrink 15 = .ok (.new 208, 3) := by decide +kernel
theorem dX6_shrink_18 : decode cX6_shrink 18 = .ok (.dup, 1) := by decide +kernel
theorem dX6_shrink_19 : decode cX6_shrink 19 = .ok (.ldc 225, 2) := by decide +kernel
theorem dX6_shrink_21 : decode cX6_shrink 21 = .ok (.invokespecial 212, 3) := by decide +kernel
theorem dX6_shrink_24 : decode cX6_shrink 24 = .ok (.athrow, 1) := by decide +kernel
theorem dX6_shrink_25 : decode cX6_shrink 25 = .ok (.aload_n 0, 1) := by decide +kernel
theorem dX6_shrink_26 : decode cX6_shrink 26 = .ok (.invokevirtual 213, 3) := by decide +kernel
theorem dX6_shrink_29 : decode cX6_shrink 29 = .ok (.aload_n 0, 1) := by decide +kernel
theorem dX6_shrink_30 : decode cX6_shrink 30 = .ok (.getfield 10, 3) := by decide +kernel
theorem dX6_shrink_33 : decode cX6_shrink 33 = .ok (.iload_n 2, 1) := by decide +kernel
theorem dX6_shrink_34 : decode cX6_shrink 34 = .ok (.invokevirtual 227, 3) := by decide +kernel
theorem dX6_shrink_37 : decode cX6_shrink 37 = .ok (.aload_n 0, 1) := by decide +kernel
theorem dX6_shrink_38 : decode cX6_shrink 38 = .ok (.getfield 10, 3) := by decide +kernel
theorem dX6_shrink_41 : decode cX6_shrink 41 = .ok (.invokevirtual 84, 3) := by decide +kernel
theorem dX6_shrink_44 : decode cX6_shrink 44 = .ok (.istore_n 3, 1) := by decide +kernel
theorem dX6_shrink_45 : decode cX6_shrink 45 = .ok (.iconst 0, 1) := by decide +kernel
theorem dX6_shrink_46 : decode cX6_shrink 46 = .ok (.istore 4, 2) := by decide +kernel
theorem dX6_shrink_48 : decode cX6_shrink 48 = .ok (.iload 4, 2) := by decide +kernel
theorem dX6_shrink_50 : decode cX6_shrink 50 = .ok (.iload_n 3, 1) := by decide +kernel
theorem dX6_shrink_51 : decode cX6_shrink 51 = .ok (.if_icmp .ge 35, 3) := by decide +kernel
theorem dX6_shrink_54 : decode cX6_shrink 54 = .ok (.aload_n 0, 1) := by decide +kernel
theorem dX6_shrink_55 : decode cX6_shrink 55 = .ok (.iload 4, 2) := by decide +kernel
theorem dX6_shrink_57 : decode cX6_shrink 57 = .ok (.iload_n 1, 1) := by decide +kernel
theorem dX6_shrink_58 : decode cX6_shrink 58 = .ok (.invokevirtual 174, 3) := by decide +kernel
theorem dX6_shrink_61 : decode cX6_shrink 61 = .ok (.istore 5, 2) := by decide +kernel
theorem dX6_shrink_63 : decode cX6_shrink 63 = .ok (.iload 5, 2) := by decide +kernel
theorem dX6_shrink_65 : decode cX6_shrink 65 = .ok (.iconst (-1), 1) := by decide +kernel
theorem dX6_shrink_66 : decode cX6_shrink 66 = .ok (.if_icmp .eq 14, 3) := by decide +kernel
theorem dX6_shrink_69 : decode cX6_shrink 69 = .ok (.aload_n 0, 1) := by decide +kernel
theorem dX6_shrink_70 : decode cX6_shrink 70 = .ok (.getfield 10, 3) := by decide +kernel
theorem dX6_shrink_73 : decode cX6_shrink 73 = .ok (.iload 4, 2) := by decide +kernel
theorem dX6_shrink_75 : decode cX6_shrink 75 = .ok (.iload 5, 2) := by decide +kernel
theorem dX6_shrink_77 : decode cX6_shrink 77 = .ok (.invokevirtual 230, 3) := by decide +kernel
theorem dX6_shrink_80 : decode cX6_shrink 80 = .ok (.iinc 4 1, 3) := by decide +kernel
theorem dX6_shrink_83 : decode cX6_shrink 83 = .ok (.goto (-35), 3) := by decide +kernel
theorem dX6_shrink_86 : decode cX6_shrink 86 = .ok (.iload_n 3, 1) := by decide +kernel
theorem dX6_shrink_87 : decode cX6_shrink 87 = .ok (.ireturn, 1) := by decide +kernel
theorem dX6_record_0 : decode cX6_record 0 = .ok (.aload_n 0, 1) := by decide +kernel
theorem dX6_record_1 : decode cX6_record 1 = .ok (.getfield 25, 3) := by decide +kernel
theorem dX6_record_4 : decode cX6_record 4 = .ok (.aload_n 0, 1) := by decide +kernel
theorem dX6_record_5 : decode cX6_record 5 = .ok (.getfield 10, 3) := by decide +kernel
theorem dX6_record_8 : decode cX6_record 8 = .ok (.invokevirtual 109, 3) := by decide +kernel
theorem dX6_record_11 : decode cX6_record 11 = .ok (.pop, 1) := by decide +kernel
theorem dX6_record_12 : decode cX6_record 12 = .ok (.aload_n 0, 1) := by decide +kernel
theorem dX6_record_13 : decode cX6_record 13 = .ok (.invokevirtual 213, 3) := by decide +kernel
theorem dX6_record_16 : decode cX6_record 16 = .ok (.aload_n 0, 1) := by decide +kernel
theorem dX6_record_17 : decode cX6_record 17 = .ok (.getfield 10, 3) := by decide +kernel
theorem dX6_record_20 : decode cX6_record 20 = .ok (.invokevirtual 87, 3) := by decide +kernel
theorem dX6_record_23 : decode cX6_record 23 = .ok (.aload_n 0, 1) := by decide +kernel
theorem dX6_record_24 : decode cX6_record 24 = .ok (.getfield 25, 3) := by decide +kernel
theorem dX6_record_27 : decode cX6_record 27 = .ok (.invokevirtual 141, 3) := by decide +kernel
theorem dX6_record_30 : decode cX6_record 30 = .ok (.invokevirtual 233, 3) := by decide +kernel
theorem dX6_record_33 : decode cX6_record 33 = .ok (.ireturn, 1) := by decide +kernel
theorem dX6_checkFault_0 : decode cX6_checkFault 0 = .ok (.iload_n 1, 1) := by decide +kernel
theorem dX6_checkFault_1 : decode cX6_checkFault 1 = .ok (.ifCond .lt 14, 3) := by decide +kernel
theorem dX6_checkFault_4 : decode cX6_checkFault 4 = .ok (.iload_n 1, 1) := by decide +kernel
theorem dX6_checkFault_5 : decode cX6_checkFault 5 = .ok (.aload_n 0, 1) := by decide +kernel
theorem dX6_checkFault_6 : decode cX6_checkFault 6 = .ok (.getfield 10, 3) := by decide +kernel
theorem dX6_checkFault_9 : decode cX6_checkFault 9 = .ok (.invokevirtual 84, 3) := by decide +kernel
theorem dX6_checkFault_12 : decode cX6_checkFault 12 = .ok (.if_icmp .lt 13, 3) := by decide +kernel
theorem dX6_checkFault_15 : decode cX6_checkFault 15 = .ok (.new 242, 3) := by decide +kernel
theorem dX6_checkFault_18 : decode cX6_checkFault 18 = .ok (.dup, 1) := by decide +kernel
theorem dX6_checkFault_19 : decode cX6_checkFault 19 = .ok (.ldc 244, 2) := by decide +kernel
theorem dX6_checkFault_21 : decode cX6_checkFault 21 = .ok (.invokespecial 246, 3) := by decide +kernel
theorem dX6_checkFault_24 : decode cX6_checkFault 24 = .ok (.athrow, 1) := by decide +kernel
theorem dX6_checkFault_25 : decode cX6_checkFault 25 = .ok (.return_, 1) := by decide +kernel
theorem dX6_checkPromise_0 : decode cX6_checkPromise 0 = .ok (.iload_n 0, 1) := by decide +kernel
theorem dX6_checkPromise_1 : decode cX6_checkPromise 1 = .ok (.ifCond .lt 8, 3) := by decide +kernel
theorem dX6_checkPromise_4 : decode cX6_checkPromise 4 = .ok (.iload_n 0, 1) := by decide +kernel
theorem dX6_checkPromise_5 : decode cX6_checkPromise 5 = .ok (.iconst 4, 1) := by decide +kernel
theorem dX6_checkPromise_6 : decode cX6_checkPromise 6 = .ok (.if_icmp .lt 13, 3) := by decide +kernel
theorem dX6_checkPromise_9 : decode cX6_checkPromise 9 = .ok (.new 59, 3) := by decide +kernel
theorem dX6_checkPromise_12 : decode cX6_checkPromise 12 = .ok (.dup, 1) := by decide +kernel
theorem dX6_checkPromise_13 : decode cX6_checkPromise 13 = .ok (.ldc 247, 2) := by decide +kernel
theorem dX6_checkPromise_15 : decode cX6_checkPromise 15 = .ok (.invokespecial 63, 3) := by decide +kernel
theorem dX6_checkPromise_18 : decode cX6_checkPromise 18 = .ok (.athrow, 1) := by decide +kernel
theorem dX6_checkPromise_19 : decode cX6_checkPromise 19 = .ok (.return_, 1) := by decide +kernel
theorem dX6_isFault_0 : decode cX6_isFault 0 = .ok (.iload_n 1, 1) := by decide +kernel
theorem dX6_isFault_1 : decode cX6_isFault 1 = .ok (.ifCond .lt 9, 3) := by decide +kernel
theorem dX6_isFault_4 : decode cX6_isFault 4 = .ok (.iload_n 1, 1) := by decide +kernel
theorem dX6_isFault_5 : decode cX6_isFault 5 = .ok (.bipush 120, 2) := by decide +kernel
theorem dX6_isFault_7 : decode cX6_isFault 7 = .ok (.if_icmp .lt 5, 3) := by decide +kernel
theorem dX6_isFault_10 : decode cX6_isFault 10 = .ok (.iconst 0, 1) := by decide +kernel
theorem dX6_isFault_11 : decode cX6_isFault 11 = .ok (.ireturn, 1) := by decide +kernel
theorem dX6_isFault_12 : decode cX6_isFault 12 = .ok (.iload_n 0, 1) := by decide +kernel
theorem dX6_isFault_13 : decode cX6_isFault 13 = .ok (.iconst 2, 1) := by decide +kernel
theorem dX6_isFault_14 : decode cX6_isFault 14 = .ok (.if_icmp .ne 20, 3) := by decide +kernel
theorem dX6_isFault_17 : decode cX6_isFault 17 = .ok (.iload_n 2, 1) := by decide +kernel
theorem dX6_isFault_18 : decode cX6_isFault 18 = .ok (.iconst 1, 1) := by decide +kernel
theorem dX6_isFault_19 : decode cX6_isFault 19 = .ok (.if_icmp .lt 13, 3) := by decide +kernel
theorem dX6_isFault_22 : decode cX6_isFault 22 = .ok (.iload_n 2, 1) := by decide +kernel
theorem dX6_isFault_23 : decode cX6_isFault 23 = .ok (.bipush 20, 2) := by decide +kernel
theorem dX6_isFault_25 : decode cX6_isFault 25 = .ok (.if_icmp .gt 7, 3) := by decide +kernel
theorem dX6_isFault_28 : decode cX6_isFault 28 = .ok (.iconst 1, 1) := by decide +kernel
theorem dX6_isFault_29 : decode cX6_isFault 29 = .ok (.goto 4, 3) := by decide +kernel
theorem dX6_isFault_32 : decode cX6_isFault 32 = .ok (.iconst 0, 1) := by decide +kernel
theorem dX6_isFault_33 : decode cX6_isFault 33 = .ok (.ireturn, 1) := by decide +kernel
theorem dX6_isFault_34 : decode cX6_isFault 34 = .ok (.iload_n 0, 1) := by decide +kernel
theorem dX6_isFault_35 : decode cX6_isFault 35 = .ok (.ifCond .eq 8, 3) := by decide +kernel
theorem dX6_isFault_38 : decode cX6_isFault 38 = .ok (.iload_n 0, 1) := by decide +kernel
theorem dX6_isFault_39 : decode cX6_isFault 39 = .ok (.iconst 1, 1) := by decide +kernel
theorem dX6_isFault_40 : decode cX6_isFault 40 = .ok (.if_icmp .ne 11, 3) := by decide +kernel
theorem dX6_isFault_43 : decode cX6_isFault 43 = .ok (.iload_n 2, 1) := by decide +kernel
theorem dX6_isFault_44 : decode cX6_isFault 44 = .ok (.ifCond .ne 7, 3) := by decide +kernel
theorem dX6_isFault_47 : decode cX6_isFault 47 = .ok (.iconst 1, 1) := by decide +kernel
theorem dX6_isFault_48 : decode cX6_isFault 48 = .ok (.goto 4, 3) := by decide +kernel
theorem dX6_isFault_51 : decode cX6_isFault 51 = .ok (.iconst 0, 1) := by decide +kernel
theorem dX6_isFault_52 : decode cX6_isFault 52 = .ok (.ireturn, 1) := by decide +kernel
theorem dX6_isBroken_0 : decode cX6_isBroken 0 = .ok (.aload_n 0, 1) := by decide +kernel
theorem dX6_isBroken_1 : decode cX6_isBroken 1 = .ok (.getfield 25, 3) := by decide +kernel
theorem dX6_isBroken_4 : decode cX6_isBroken 4 = .ok (.aload_n 1, 1) := by decide +kernel
theorem dX6_isBroken_5 : decode cX6_isBroken 5 = .ok (.invokevirtual 109, 3) := by decide +kernel
theorem dX6_isBroken_8 : decode cX6_isBroken 8 = .ok (.iload_n 2, 1) := by decide +kernel
theorem dX6_isBroken_9 : decode cX6_isBroken 9 = .ok (.ishr, 1) := by decide +kernel
theorem dX6_isBroken_10 : decode cX6_isBroken 10 = .ok (.iconst 1, 1) := by decide +kernel
theorem dX6_isBroken_11 : decode cX6_isBroken 11 = .ok (.iand, 1) := by decide +kernel
theorem dX6_isBroken_12 : decode cX6_isBroken 12 = .ok (.ifCond .eq 7, 3) := by decide +kernel
theorem dX6_isBroken_15 : decode cX6_isBroken 15 = .ok (.iconst 1, 1) := by decide +kernel
theorem dX6_isBroken_16 : decode cX6_isBroken 16 = .ok (.goto 4, 3) := by decide +kernel
theorem dX6_isBroken_19 : decode cX6_isBroken 19 = .ok (.iconst 0, 1) := by decide +kernel
theorem dX6_isBroken_20 : decode cX6_isBroken 20 = .ok (.ireturn, 1) := by decide +kernel
theorem dX6_breaksWithoutFaults_0 : decode cX6_breaksWithoutFaults 0 = .ok (.aload_n 0, 1) := by decide +kernel
theorem dX6_breaksWithoutFaults_1 : decode cX6_breaksWithoutFaults 1 = .ok (.getfield 19, 3) := by decide +kernel
theorem dX6_breaksWithoutFaults_4 : decode cX6_breaksWithoutFaults 4 = .ok (.aload_n 0, 1) := by decide +kernel
theorem dX6_breaksWithoutFaults_5 : decode cX6_breaksWithoutFaults 5 = .ok (.getfield 10, 3) := by decide +kernel
theorem dX6_breaksWithoutFaults_8 : decode cX6_breaksWithoutFaults 8 = .ok (.iconst 0, 1) := by decide +kernel
theorem dX6_breaksWithoutFaults_9 : decode cX6_breaksWithoutFaults 9 = .ok (.invokevirtual 251, 3) := by decide +kernel
theorem dX6_breaksWithoutFaults_12 : decode cX6_breaksWithoutFaults 12 = .ok (.aload_n 0, 1) := by decide +kernel
theorem dX6_breaksWithoutFaults_13 : decode cX6_breaksWithoutFaults 13 = .ok (.aload_n 0, 1) := by decide +kernel
theorem dX6_breaksWithoutFaults_14 : decode cX6_breaksWithoutFaults 14 = .ok (.getfield 19, 3) := by decide +kernel
theorem dX6_breaksWithoutFaults_17 : decode cX6_breaksWithoutFaults 17 = .ok (.iload_n 1, 1) := by decide +kernel
theorem dX6_breaksWithoutFaults_18 : decode cX6_breaksWithoutFaults 18 = .ok (.invokevirtual 155, 3) := by decide +kernel
theorem dX6_breaksWithoutFaults_21 : decode cX6_breaksWithoutFaults 21 = .ok (.ireturn, 1) := by decide +kernel
theorem dX6_findCore_0 : decode cX6_findCore 0 = .ok (.aload_n 0, 1) := by decide +kernel
theorem dX6_findCore_1 : decode cX6_findCore 1 = .ok (.getfield 10, 3) := by decide +kernel
theorem dX6_findCore_4 : decode cX6_findCore 4 = .ok (.invokevirtual 84, 3) := by decide +kernel
theorem dX6_findCore_7 : decode cX6_findCore 7 = .ok (.istore_n 2, 1) := by decide +kernel
theorem dX6_findCore_8 : decode cX6_findCore 8 = .ok (.iconst 1, 1) := by decide +kernel
theorem dX6_findCore_9 : decode cX6_findCore 9 = .ok (.iload_n 2, 1) := by decide +kernel
theorem dX6_findCore_10 : decode cX6_findCore 10 = .ok (.ishl, 1) := by decide +kernel
theorem dX6_findCore_11 : decode cX6_findCore 11 = .ok (.istore_n 3, 1) := by decide +kernel
theorem dX6_findCore_12 : decode cX6_findCore 12 = .ok (.iconst 0, 1) := by decide +kernel
theorem dX6_findCore_13 : decode cX6_findCore 13 = .ok (.istore 4, 2) := by decide +kernel
theorem dX6_findCore_15 : decode cX6_findCore 15 = .ok (.iload 4, 2) := by decide +kernel
theorem dX6_findCore_17 : decode cX6_findCore 17 = .ok (.iload_n 2, 1) := by decide +kernel
theorem dX6_findCore_18 : decode cX6_findCore 18 = .ok (.if_icmp .gt 74, 3) := by decide +kernel
theorem dX6_findCore_21 : decode cX6_findCore 21 = .ok (.iload_n 3, 1) := by decide +kernel
theorem dX6_findCore_22 : decode cX6_findCore 22 = .ok (.iconst 1, 1) := by decide +kernel
theorem dX6_findCore_23 : decode cX6_findCore 23 = .ok (.isub, 1) := by decide +kernel
theorem dX6_findCore_24 : decode cX6_findCore 24 = .ok (.istore 5, 2) := by decide +kernel
theorem dX6_findCore_26 : decode cX6_findCore 26 = .ok (.iload 5, 2) := by decide +kernel
theorem dX6_findCore_28 : decode cX6_findCore 28 = .ok (.ifCond .lt 58, 3) := by decide +kernel
theorem dX6_findCore_31 : decode cX6_findCore 31 = .ok (.iload 5, 2) := by decide +kernel
theorem dX6_findCore_33 : decode cX6_findCore 33 = .ok (.invokestatic 169, 3) := by decide +kernel
theorem dX6_findCore_36 : decode cX6_findCore 36 = .ok (.iload 4, 2) := by decide +kernel
theorem dX6_findCore_38 : decode cX6_findCore 38 = .ok (.if_icmp .eq 6, 3) := by decide +kernel
theorem dX6_findCore_41 : decode cX6_findCore 41 = .ok (.goto 39, 3) := by decide +kernel
theorem dX6_findCore_44 : decode cX6_findCore 44 = .ok (.iload 5, 2) := by decide +kernel
theorem dX6_findCore_46 : decode cX6_findCore 46 = .ok (.iload_n 2, 1) := by decide +kernel
theorem dX6_findCore_47 : decode cX6_findCore 47 = .ok (.invokestatic 255, 3) := by decide +kernel
theorem dX6_findCore_50 : decode cX6_findCore 50 = .ok (.istore 6, 2) := by decide +kernel
theorem dX6_findCore_52 : decode cX6_findCore 52 = .ok (.aload_n 0, 1) := by decide +kernel
theorem dX6_findCore_53 : decode cX6_findCore 53 = .ok (.getfield 19, 3) := by decide +kernel
theorem dX6_findCore_56 : decode cX6_findCore 56 = .ok (.aload_n 0, 1) := by decide +kernel
theorem dX6_findCore_57 : decode cX6_findCore 57 = .ok (.getfield 10, 3) := by decide +kernel
theorem dX6_findCore_60 : decode cX6_findCore 60 = .ok (.iload 6, 2) := by decide +kernel
theorem dX6_findCore_62 : decode cX6_findCore 62 = .ok (.invokevirtual 251, 3) := by decide +kernel
theorem dX6_findCore_65 : decode cX6_findCore 65 = .ok (.aload_n 0, 1) := by decide +kernel
theorem dX6_findCore_66 : decode cX6_findCore 66 = .ok (.aload_n 0, 1) := by decide +kernel
theorem dX6_findCore_67 : decode cX6_findCore 67 = .ok (.getfield 19, 3) := by decide +kernel
theorem dX6_findCore_70 : decode cX6_findCore 70 = .ok (.iload_n 1, 1) := by decide +kernel
theorem dX6_findCore_71 : decode cX6_findCore 71 = .ok (.invokevirtual 155, 3) := by decide +kernel
theorem dX6_findCore_74 : decode cX6_findCore 74 = .ok (.ifCond .eq 6, 3) := by decide +kernel
theorem dX6_findCore_77 : decode cX6_findCore 77 = .ok (.iload 6, 2) := by decide +kernel
theorem dX6_findCore_79 : decode cX6_findCore 79 = .ok (.ireturn, 1) := by decide +kernel
theorem dX6_findCore_80 : decode cX6_findCore 80 = .ok (.iinc 5 (-1), 3) := by decide +kernel
theorem dX6_findCore_83 : decode cX6_findCore 83 = .ok (.goto (-57), 3) := by decide +kernel
theorem dX6_findCore_86 : decode cX6_findCore 86 = .ok (.iinc 4 1, 3) := by decide +kernel
theorem dX6_findCore_89 : decode cX6_findCore 89 = .ok (.goto (-74), 3) := by decide +kernel
theorem dX6_findCore_92 : decode cX6_findCore 92 = .ok (.iconst (-1), 1) := by decide +kernel
theorem dX6_findCore_93 : decode cX6_findCore 93 = .ok (.ireturn, 1) := by decide +kernel
theorem dX6_mirror_0 : decode cX6_mirror 0 = .ok (.iconst 0, 1) := by decide +kernel
theorem dX6_mirror_1 : decode cX6_mirror 1 = .ok (.istore_n 2, 1) := by decide +kernel
theorem dX6_mirror_2 : decode cX6_mirror 2 = .ok (.iconst 0, 1) := by decide +kernel
theorem dX6_mirror_3 : decode cX6_mirror 3 = .ok (.istore_n 3, 1) := by decide +kernel
theorem dX6_mirror_4 : decode cX6_mirror 4 = .ok (.iload_n 3, 1) := by decide +kernel
theorem dX6_mirror_5 : decode cX6_mirror 5 = .ok (.iload_n 1, 1) := by decide +kernel
theorem dX6_mirror_6 : decode cX6_mirror 6 = .ok (.if_icmp .ge 19, 3) := by decide +kernel
theorem dX6_mirror_9 : decode cX6_mirror 9 = .ok (.iload_n 2, 1) := by decide +kernel
theorem dX6_mirror_10 : decode cX6_mirror 10 = .ok (.iconst 1, 1) := by decide +kernel
theorem dX6_mirror_11 : decode cX6_mirror 11 = .ok (.ishl, 1) := by decide +kernel
theorem dX6_mirror_12 : decode cX6_mirror 12 = .ok (.iload_n 0, 1) := by decide +kernel
theorem dX6_mirror_13 : decode cX6_mirror 13 = .ok (.iload_n 3, 1) := by decide +kernel
theorem dX6_mirror_14 : decode cX6_mirror 14 = .ok (.ishr, 1) := by decide +kernel
theorem dX6_mirror_15 : decode cX6_mirror 15 = .ok (.iconst 1, 1) := by decide +kernel
theorem dX6_mirror_16 : decode cX6_mirror 16 = .ok (.iand, 1) := by decide +kernel
theorem dX6_mirror_17 : decode cX6_mirror 17 = .ok (.ior, 1) := by decide +kernel
theorem dX6_mirror_18 : decode cX6_mirror 18 = .ok (.istore_n 2, 1) := by decide +kernel
theorem dX6_mirror_19 : decode cX6_mirror 19 = .ok (.iinc 3 1, 3) := by decide +kernel
theorem dX6_mirror_22 : decode cX6_mirror 22 = .ok (.goto (-18), 3) := by decide +kernel
theorem dX6_mirror_25 : decode cX6_mirror 25 = .ok (.iload_n 2, 1) := by decide +kernel
theorem dX6_mirror_26 : decode cX6_mirror 26 = .ok (.ireturn, 1) := by decide +kernel
theorem dX6_findLeastAmount_0 : decode cX6_findLeastAmount 0 = .ok (.aload_n 0, 1) := by decide +kernel
theorem dX6_findLeastAmount_1 : decode cX6_findLeastAmount 1 = .ok (.getfield 10, 3) := by decide +kernel
theorem dX6_findLeastAmount_4 : decode cX6_findLeastAmount 4 = .ok (.iload_n 1, 1) := by decide +kernel
theorem dX6_findLeastAmount_5 : decode cX6_findLeastAmount 5 = .ok (.iconst 0, 1) := by decide +kernel
theorem dX6_findLeastAmount_6 : decode cX6_findLeastAmount 6 = .ok (.invokevirtual 103, 3) := by decide +kernel
theorem dX6_findLeastAmount_9 : decode cX6_findLeastAmount 9 = .ok (.iconst 2, 1) := by decide +kernel
theorem dX6_findLeastAmount_10 : decode cX6_findLeastAmount 10 = .ok (.if_icmp .eq 5, 3) := by decide +kernel
theorem dX6_findLeastAmount_13 : decode cX6_findLeastAmount 13 = .ok (.iconst (-1), 1) := by decide +kernel
theorem dX6_findLeastAmount_14 : decode cX6_findLeastAmount 14 = .ok (.ireturn, 1) := by decide +kernel
theorem dX6_findLeastAmount_15 : decode cX6_findLeastAmount 15 = .ok (.aload_n 0, 1) := by decide +kernel
theorem dX6_findLeastAmount_16 : decode cX6_findLeastAmount 16 = .ok (.getfield 19, 3) := by decide +kernel
theorem dX6_findLeastAmount_19 : decode cX6_findLeastAmount 19 = .ok (.aload_n 0, 1) := by decide +kernel
theorem dX6_findLeastAmount_20 : decode cX6_findLeastAmount 20 = .ok (.getfield 10, 3) := by decide +kernel
theorem dX6_findLeastAmount_23 : decode cX6_findLeastAmount 23 = .ok (.invokevirtual 74, 3) := by decide +kernel
theorem dX6_findLeastAmount_26 : decode cX6_findLeastAmount 26 = .ok (.aload_n 0, 1) := by decide +kernel
theorem dX6_findLeastAmount_27 : decode cX6_findLeastAmount 27 = .ok (.getfield 10, 3) := by decide +kernel
theorem dX6_findLeastAmount_30 : decode cX6_findLeastAmount 30 = .ok (.iload_n 1, 1) := by decide +kernel
theorem dX6_findLeastAmount_31 : decode cX6_findLeastAmount 31 = .ok (.iconst 2, 1) := by decide +kernel
theorem dX6_findLeastAmount_32 : decode cX6_findLeastAmount 32 = .ok (.invokevirtual 103, 3) := by decide +kernel
theorem dX6_findLeastAmount_35 : decode cX6_findLeastAmount 35 = .ok (.istore_n 3, 1) := by decide +kernel
theorem dX6_findLeastAmount_36 : decode cX6_findLeastAmount 36 = .ok (.iconst 1, 1) := by decide +kernel
theorem dX6_findLeastAmount_37 : decode cX6_findLeastAmount 37 = .ok (.istore 4, 2) := by decide +kernel
theorem dX6_findLeastAmount_39 : decode cX6_findLeastAmount 39 = .ok (.iload 4, 2) := by decide +kernel
theorem dX6_findLeastAmount_41 : decode cX6_findLeastAmount 41 = .ok (.iload_n 3, 1) := by decide +kernel
theorem dX6_findLeastAmount_42 : decode cX6_findLeastAmount 42 = .ok (.if_icmp .gt 34, 3) := by decide +kernel
theorem dX6_findLeastAmount_45 : decode cX6_findLeastAmount 45 = .ok (.aload_n 0, 1) := by decide +kernel
theorem dX6_findLeastAmount_46 : decode cX6_findLeastAmount 46 = .ok (.getfield 19, 3) := by decide +kernel
theorem dX6_findLeastAmount_49 : decode cX6_findLeastAmount 49 = .ok (.iload_n 1, 1) := by decide +kernel
theorem dX6_findLeastAmount_50 : decode cX6_findLeastAmount 50 = .ok (.iload 4, 2) := by decide +kernel
theorem dX6_findLeastAmount_52 : decode cX6_findLeastAmount 52 = .ok (.invokevirtual 230, 3) := by decide +kernel
theorem dX6_findLeastAmount_55 : decode cX6_findLeastAmount 55 = .ok (.aload_n 0, 1) := by decide +kernel
theorem dX6_findLeastAmount_56 : decode cX6_findLeastAmount 56 = .ok (.aload_n 0, 1) := by decide +kernel
theorem dX6_findLeastAmount_57 : decode cX6_findLeastAmount 57 = .ok (.getfield 19, 3) := by decide +kernel
theorem dX6_findLeastAmount_60 : decode cX6_findLeastAmount 60 = .ok (.iload_n 2, 1) := by decide +kernel
theorem dX6_findLeastAmount_61 : decode cX6_findLeastAmount 61 = .ok (.invokevirtual 155, 3) := by decide +kernel
theorem dX6_findLeastAmount_64 : decode cX6_findLeastAmount 64 = .ok (.ifCond .eq 6, 3) := by decide +kernel
theorem dX6_findLeastAmount_67 : decode cX6_findLeastAmount 67 = .ok (.iload 4, 2) := by decide +kernel
theorem dX6_findLeastAmount_69 : decode cX6_findLeastAmount 69 = .ok (.ireturn, 1) := by decide +kernel
theorem dX6_findLeastAmount_70 : decode cX6_findLeastAmount 70 = .ok (.iinc 4 1, 3) := by decide +kernel
theorem dX6_findLeastAmount_73 : decode cX6_findLeastAmount 73 = .ok (.goto (-34), 3) := by decide +kernel
theorem dX6_findLeastAmount_76 : decode cX6_findLeastAmount 76 = .ok (.iconst (-1), 1) := by decide +kernel
theorem dX6_findLeastAmount_77 : decode cX6_findLeastAmount 77 = .ok (.ireturn, 1) := by decide +kernel
theorem dX6_findAttack_0 : decode cX6_findAttack 0 = .ok (.iconst 0, 1) := by decide +kernel
theorem dX6_findAttack_1 : decode cX6_findAttack 1 = .ok (.istore_n 3, 1) := by decide +kernel
theorem dX6_findAttack_2 : decode cX6_findAttack 2 = .ok (.iload_n 3, 1) := by decide +kernel
theorem dX6_findAttack_3 : decode cX6_findAttack 3 = .ok (.iload_n 2, 1) := by decide +kernel
theorem dX6_findAttack_4 : decode cX6_findAttack 4 = .ok (.if_icmp .ge 94, 3) := by decide +kernel
theorem dX6_findAttack_7 : decode cX6_findAttack 7 = .ok (.iconst 0, 1) := by decide +kernel
theorem dX6_findAttack_8 : decode cX6_findAttack 8 = .ok (.istore 4, 2) := by decide +kernel
theorem dX6_findAttack_10 : decode cX6_findAttack 10 = .ok (.iload 4, 2) := by decide +kernel
theorem dX6_findAttack_12 : decode cX6_findAttack 12 = .ok (.iconst 2, 1) := by decide +kernel
theorem dX6_findAttack_13 : decode cX6_findAttack 13 = .ok (.if_icmp .gt 79, 3) := by decide +kernel
theorem dX6_findAttack_16 : decode cX6_findAttack 16 = .ok (.iload 4, 2) := by decide +kernel
theorem dX6_findAttack_18 : decode cX6_findAttack 18 = .ok (.iconst 2, 1) := by decide +kernel
theorem dX6_findAttack_19 : decode cX6_findAttack 19 = .ok (.if_icmp .ne 7, 3) := by decide +kernel
theorem dX6_findAttack_22 : decode cX6_findAttack 22 = .ok (.iconst 1, 1) := by decide +kernel
theorem dX6_findAttack_23 : decode cX6_findAttack 23 = .ok (.goto 4, 3) := by decide +kernel
theorem dX6_findAttack_26 : decode cX6_findAttack 26 = .ok (.iconst 0, 1) := by decide +kernel
theorem dX6_findAttack_27 : decode cX6_findAttack 27 = .ok (.istore 5, 2) := by decide +kernel
theorem dX6_findAttack_29 : decode cX6_findAttack 29 = .ok (.iload 4, 2) := by decide +kernel
theorem dX6_findAttack_31 : decode cX6_findAttack 31 = .ok (.iconst 2, 1) := by decide +kernel
theorem dX6_findAttack_32 : decode cX6_findAttack 32 = .ok (.if_icmp .ne 8, 3) := by decide +kernel
theorem dX6_findAttack_35 : decode cX6_findAttack 35 = .ok (.bipush 20, 2) := by decide +kernel
theorem dX6_findAttack_37 : decode cX6_findAttack 37 = .ok (.goto 4, 3) := by decide +kernel
theorem dX6_findAttack_40 : decode cX6_findAttack 40 = .ok (.iconst 0, 1) := by decide +kernel
theorem dX6_findAttack_41 : decode cX6_findAttack 41 = .ok (.istore 6, 2) := by decide +kernel
theorem dX6_findAttack_43 : decode cX6_findAttack 43 = .ok (.iload 5, 2) := by decide +kernel
theorem dX6_findAttack_45 : decode cX6_findAttack 45 = .ok (.istore 7, 2) := by decide +kernel
theorem dX6_findAttack_47 : decode cX6_findAttack 47 = .ok (.iload 7, 2) := by decide +kernel
theorem dX6_findAttack_49 : decode cX6_findAttack 49 = .ok (.iload 6, 2) := by decide +kernel
theorem dX6_findAttack_51 : decode cX6_findAttack 51 = .ok (.if_icmp .gt 35, 3) := by decide +kernel
theorem dX6_findAttack_54 : decode cX6_findAttack 54 = .ok (.aload_n 0, 1) := by decide +kernel
theorem dX6_findAttack_55 : decode cX6_findAttack 55 = .ok (.getfield 19, 3) := by decide +kernel
theorem dX6_findAttack_58 : decode cX6_findAttack 58 = .ok (.iload 4, 2) := by decide +kernel
theorem dX6_findAttack_60 : decode cX6_findAttack 60 = .ok (.iload_n 3, 1) := by decide +kernel
theorem dX6_findAttack_61 : decode cX6_findAttack 61 = .ok (.iload 7, 2) := by decide +kernel
theorem dX6_findAttack_63 : decode cX6_findAttack 63 = .ok (.invokevirtual 184, 3) := by decide +kernel
theorem dX6_findAttack_66 : decode cX6_findAttack 66 = .ok (.aload_n 0, 1) := by decide +kernel
theorem dX6_findAttack_67 : decode cX6_findAttack 67 = .ok (.aload_n 0, 1) := by decide +kernel
theorem dX6_findAttack_68 : decode cX6_findAttack 68 = .ok (.getfield 19, 3) := by decide +kernel
theorem dX6_findAttack_71 : decode cX6_findAttack 71 = .ok (.iload_n 1, 1) := by decide +kernel
theorem dX6_findAttack_72 : decode cX6_findAttack 72 = .ok (.invokevirtual 155, 3) := by decide +kernel
theorem dX6_findAttack_75 : decode cX6_findAttack 75 = .ok (.ifCond .eq 5, 3) := by decide +kernel
theorem dX6_findAttack_78 : decode cX6_findAttack 78 = .ok (.iconst 1, 1) := by decide +kernel
theorem dX6_findAttack_79 : decode cX6_findAttack 79 = .ok (.ireturn, 1) := by decide +kernel
theorem dX6_findAttack_80 : decode cX6_findAttack 80 = .ok (.iinc 7 1, 3) := by decide +kernel
theorem dX6_findAttack_83 : decode cX6_findAttack 83 = .ok (.goto (-36), 3) := by decide +kernel
theorem dX6_findAttack_86 : decode cX6_findAttack 86 = .ok (.iinc 4 1, 3) := by decide +kernel
theorem dX6_findAttack_89 : decode cX6_findAttack 89 = .ok (.goto (-79), 3) := by decide +kernel
theorem dX6_findAttack_92 : decode cX6_findAttack 92 = .ok (.iinc 3 1, 3) := by decide +kernel
theorem dX6_findAttack_95 : decode cX6_findAttack 95 = .ok (.goto (-93), 3) := by decide +kernel
theorem dX6_findAttack_98 : decode cX6_findAttack 98 = .ok (.iconst 0, 1) := by decide +kernel
theorem dX6_findAttack_99 : decode cX6_findAttack 99 = .ok (.ireturn, 1) := by decide +kernel
theorem dX6_remember_0 : decode cX6_remember 0 = .ok (.aload_n 0, 1) := by decide +kernel
theorem dX6_remember_1 : decode cX6_remember 1 = .ok (.getfield 40, 3) := by decide +kernel
theorem dX6_remember_4 : decode cX6_remember 4 = .ok (.bipush 10, 2) := by decide +kernel
theorem dX6_remember_6 : decode cX6_remember 6 = .ok (.if_icmp .lt 52, 3) := by decide +kernel
theorem dX6_remember_9 : decode cX6_remember 9 = .ok (.aload_n 0, 1) := by decide +kernel
theorem dX6_remember_10 : decode cX6_remember 10 = .ok (.getfield 36, 3) := by decide +kernel
theorem dX6_remember_13 : decode cX6_remember 13 = .ok (.iconst 0, 1) := by decide +kernel
theorem dX6_remember_14 : decode cX6_remember 14 = .ok (.aaload, 1) := by decide +kernel
theorem dX6_remember_15 : decode cX6_remember 15 = .ok (.astore_n 1, 1) := by decide +kernel
theorem dX6_remember_16 : decode cX6_remember 16 = .ok (.iconst 1, 1) := by decide +kernel
theorem dX6_remember_17 : decode cX6_remember 17 = .ok (.istore_n 2, 1) := by decide +kernel
theorem dX6_remember_18 : decode cX6_remember 18 = .ok (.iload_n 2, 1) := by decide +kernel
theorem dX6_remember_19 : decode cX6_remember 19 = .ok (.bipush 10, 2) := by decide +kernel
theorem dX6_remember_21 : decode cX6_remember 21 = .ok (.if_icmp .ge 23, 3) := by decide +kernel
theorem dX6_remember_24 : decode cX6_remember 24 = .ok (.aload_n 0, 1) := by decide +kernel
theorem dX6_remember_25 : decode cX6_remember 25 = .ok (.getfield 36, 3) := by decide +kernel
theorem dX6_remember_28 : decode cX6_remember 28 = .ok (.iload_n 2, 1) := by decide +kernel
theorem dX6_remember_29 : decode cX6_remember 29 = .ok (.iconst 1, 1) := by decide +kernel
theorem dX6_remember_30 : decode cX6_remember 30 = .ok (.isub, 1) := by decide +kernel
theorem dX6_remember_31 : decode cX6_remember 31 = .ok (.aload_n 0, 1) := by decide +kernel
theorem dX6_remember_32 : decode cX6_remember 32 = .ok (.getfield 36, 3) := by decide +kernel
theorem dX6_remember_35 : decode cX6_remember 35 = .ok (.iload_n 2, 1) := by decide +kernel
theorem dX6_remember_36 : decode cX6_remember 36 = .ok (.aaload, 1) := by decide +kernel
theorem dX6_remember_37 : decode cX6_remember 37 = .ok (.aastore, 1) := by decide +kernel
theorem dX6_remember_38 : decode cX6_remember 38 = .ok (.iinc 2 1, 3) := by decide +kernel
theorem dX6_remember_41 : decode cX6_remember 41 = .ok (.goto (-23), 3) := by decide +kernel
theorem dX6_remember_44 : decode cX6_remember 44 = .ok (.aload_n 0, 1) := by decide +kernel
theorem dX6_remember_45 : decode cX6_remember 45 = .ok (.getfield 36, 3) := by decide +kernel
theorem dX6_remember_48 : decode cX6_remember 48 = .ok (.bipush 9, 2) := by decide +kernel
theorem dX6_remember_50 : decode cX6_remember 50 = .ok (.aload_n 1, 1) := by decide +kernel
theorem dX6_remember_51 : decode cX6_remember 51 = .ok (.aastore, 1) := by decide +kernel
theorem dX6_remember_52 : decode cX6_remember 52 = .ok (.aload_n 0, 1) := by decide +kernel
theorem dX6_remember_53 : decode cX6_remember 53 = .ok (.bipush 9, 2) := by decide +kernel
theorem dX6_remember_55 : decode cX6_remember 55 = .ok (.putfield 40, 3) := by decide +kernel
theorem dX6_remember_58 : decode cX6_remember 58 = .ok (.aload_n 0, 1) := by decide +kernel
theorem dX6_remember_59 : decode cX6_remember 59 = .ok (.getfield 40, 3) := by decide +kernel
theorem dX6_remember_62 : decode cX6_remember 62 = .ok (.ifCond .ge 4, 3) := by decide +kernel
theorem dX6_remember_65 : decode cX6_remember 65 = .ok (.return_, 1) := by decide +kernel
theorem dX6_remember_66 : decode cX6_remember 66 = .ok (.aload_n 0, 1) := by decide +kernel
theorem dX6_remember_67 : decode cX6_remember 67 = .ok (.getfield 36, 3) := by decide +kernel
theorem dX6_remember_70 : decode cX6_remember 70 = .ok (.aload_n 0, 1) := by decide +kernel
theorem dX6_remember_71 : decode cX6_remember 71 = .ok (.getfield 40, 3) := by decide +kernel
theorem dX6_remember_74 : decode cX6_remember 74 = .ok (.aaload, 1) := by decide +kernel
theorem dX6_remember_75 : decode cX6_remember 75 = .ok (.astore_n 1, 1) := by decide +kernel
theorem dX6_remember_76 : decode cX6_remember 76 = .ok (.aload_n 1, 1) := by decide +kernel
theorem dX6_remember_77 : decode cX6_remember 77 = .ok (.ifnull 21, 3) := by decide +kernel
theorem dX6_remember_80 : decode cX6_remember 80 = .ok (.aload_n 1, 1) := by decide +kernel
theorem dX6_remember_81 : decode cX6_remember 81 = .ok (.aload_n 0, 1) := by decide +kernel
theorem dX6_remember_82 : decode cX6_remember 82 = .ok (.getfield 10, 3) := by decide +kernel
theorem dX6_remember_85 : decode cX6_remember 85 = .ok (.invokevirtual 74, 3) := by decide +kernel
theorem dX6_remember_88 : decode cX6_remember 88 = .ok (.aload_n 0, 1) := by decide +kernel
theorem dX6_remember_89 : decode cX6_remember 89 = .ok (.dup, 1) := by decide +kernel
theorem dX6_remember_90 : decode cX6_remember 90 = .ok (.getfield 40, 3) := by decide +kernel
theorem dX6_remember_93 : decode cX6_remember 93 = .ok (.iconst 1, 1) := by decide +kernel
theorem dX6_remember_94 : decode cX6_remember 94 = .ok (.iadd, 1) := by decide +kernel
theorem dX6_remember_95 : decode cX6_remember 95 = .ok (.putfield 40, 3) := by decide +kernel
theorem dX6_remember_98 : decode cX6_remember 98 = .ok (.return_, 1) := by decide +kernel
