theorem dX7_init_0 : decode cX7_init 0 = .ok (.aload_n 0, 1) := by decide +kernel
theorem dX7_init_1 : decode cX7_init 1 = .ok (.invokespecial 1, 3) := by decide +kernel
theorem dX7_init_4 : decode cX7_init 4 = .ok (.aload_n 0, 1) := by decide +kernel
theorem dX7_init_5 : decode cX7_init 5 = .ok (.sipush 183, 3) := by decide +kernel
theorem dX7_init_8 : decode cX7_init 8 = .ok (.newarray .int, 2) := by decide +kernel
theorem dX7_init_10 : decode cX7_init 10 = .ok (.putfield 7, 3) := by decide +kernel
theorem dX7_init_13 : decode cX7_init 13 = .ok (.aload_n 0, 1) := by decide +kernel
theorem dX7_init_14 : decode cX7_init 14 = .ok (.sipush 500, 3) := by decide +kernel
theorem dX7_init_17 : decode cX7_init 17 = .ok (.newarray .byte, 2) := by decide +kernel
theorem dX7_init_19 : decode cX7_init 19 = .ok (.putfield 13, 3) := by decide +kernel
theorem dX7_init_22 : decode cX7_init 22 = .ok (.aload_n 0, 1) := by decide +kernel
theorem dX7_init_23 : decode cX7_init 23 = .ok (.iconst (-1), 1) := by decide +kernel
theorem dX7_init_24 : decode cX7_init 24 = .ok (.putfield 17, 3) := by decide +kernel
theorem dX7_init_27 : decode cX7_init 27 = .ok (.aload_n 0, 1) := by decide +kernel
theorem dX7_init_28 : decode cX7_init 28 = .ok (.sipush 183, 3) := by decide +kernel
theorem dX7_init_31 : decode cX7_init 31 = .ok (.newarray .int, 2) := by decide +kernel
theorem dX7_init_33 : decode cX7_init 33 = .ok (.putfield 21, 3) := by decide +kernel
theorem dX7_init_36 : decode cX7_init 36 = .ok (.aload_n 0, 1) := by decide +kernel
theorem dX7_init_37 : decode cX7_init 37 = .ok (.aload_n 0, 1) := by decide +kernel
theorem dX7_init_38 : decode cX7_init 38 = .ok (.getfield 7, 3) := by decide +kernel
theorem dX7_init_41 : decode cX7_init 41 = .ok (.putfield 24, 3) := by decide +kernel
theorem dX7_init_44 : decode cX7_init 44 = .ok (.aload_n 0, 1) := by decide +kernel
theorem dX7_init_45 : decode cX7_init 45 = .ok (.sipush 183, 3) := by decide +kernel
theorem dX7_init_48 : decode cX7_init 48 = .ok (.newarray .int, 2) := by decide +kernel
theorem dX7_init_50 : decode cX7_init 50 = .ok (.putfield 27, 3) := by decide +kernel
theorem dX7_init_53 : decode cX7_init 53 = .ok (.aload_n 0, 1) := by decide +kernel
theorem dX7_init_54 : decode cX7_init 54 = .ok (.bipush 120, 2) := by decide +kernel
theorem dX7_init_56 : decode cX7_init 56 = .ok (.newarray .int, 2) := by decide +kernel
theorem dX7_init_58 : decode cX7_init 58 = .ok (.putfield 30, 3) := by decide +kernel
theorem dX7_init_61 : decode cX7_init 61 = .ok (.aload_n 0, 1) := by decide +kernel
theorem dX7_init_62 : decode cX7_init 62 = .ok (.bipush 120, 2) := by decide +kernel
theorem dX7_init_64 : decode cX7_init 64 = .ok (.newarray .int, 2) := by decide +kernel
theorem dX7_init_66 : decode cX7_init 66 = .ok (.putfield 33, 3) := by decide +kernel
theorem dX7_init_69 : decode cX7_init 69 = .ok (.aload_n 0, 1) := by decide +kernel
theorem dX7_init_70 : decode cX7_init 70 = .ok (.bipush 120, 2) := by decide +kernel
theorem dX7_init_72 : decode cX7_init 72 = .ok (.newarray .int, 2) := by decide +kernel
theorem dX7_init_74 : decode cX7_init 74 = .ok (.putfield 36, 3) := by decide +kernel
theorem dX7_init_77 : decode cX7_init 77 = .ok (.aload_n 0, 1) := by decide +kernel
theorem dX7_init_78 : decode cX7_init 78 = .ok (.bipush 120, 2) := by decide +kernel
theorem dX7_init_80 : decode cX7_init 80 = .ok (.newarray .int, 2) := by decide +kernel
theorem dX7_init_82 : decode cX7_init 82 = .ok (.putfield 39, 3) := by decide +kernel
theorem dX7_init_85 : decode cX7_init 85 = .ok (.aload_n 0, 1) := by decide +kernel
theorem dX7_init_86 : decode cX7_init 86 = .ok (.bipush 120, 2) := by decide +kernel
theorem dX7_init_88 : decode cX7_init 88 = .ok (.newarray .int, 2) := by decide +kernel
theorem dX7_init_90 : decode cX7_init 90 = .ok (.putfield 42, 3) := by decide +kernel
theorem dX7_init_93 : decode cX7_init 93 = .ok (.aload_n 0, 1) := by decide +kernel
theorem dX7_init_94 : decode cX7_init 94 = .ok (.sipush 240, 3) := by decide +kernel
theorem dX7_init_97 : decode cX7_init 97 = .ok (.newarray .int, 2) := by decide +kernel
theorem dX7_init_99 : decode cX7_init 99 = .ok (.putfield 45, 3) := by decide +kernel
theorem dX7_init_102 : decode cX7_init 102 = .ok (.aload_n 0, 1) := by decide +kernel
theorem dX7_init_103 : decode cX7_init 103 = .ok (.sipush 144, 3) := by decide +kernel
theorem dX7_init_106 : decode cX7_init 106 = .ok (.newarray .boolean, 2) := by decide +kernel
theorem dX7_init_108 : decode cX7_init 108 = .ok (.putfield 48, 3) := by decide +kernel
theorem dX7_init_111 : decode cX7_init 111 = .ok (.aload_n 0, 1) := by decide +kernel
theorem dX7_init_112 : decode cX7_init 112 = .ok (.sipush 1830, 3) := by decide +kernel
theorem dX7_init_115 : decode cX7_init 115 = .ok (.newarray .int, 2) := by decide +kernel
theorem dX7_init_117 : decode cX7_init 117 = .ok (.putfield 52, 3) := by decide +kernel
theorem dX7_init_120 : decode cX7_init 120 = .ok (.aload_n 0, 1) := by decide +kernel
theorem dX7_init_121 : decode cX7_init 121 = .ok (.sipush 366, 3) := by decide +kernel
theorem dX7_init_124 : decode cX7_init 124 = .ok (.newarray .int, 2) := by decide +kernel
theorem dX7_init_126 : decode cX7_init 126 = .ok (.putfield 55, 3) := by decide +kernel
theorem dX7_init_129 : decode cX7_init 129 = .ok (.aload_n 0, 1) := by decide +kernel
theorem dX7_init_130 : decode cX7_init 130 = .ok (.iconst 2, 1) := by decide +kernel
theorem dX7_init_131 : decode cX7_init 131 = .ok (.newarray .boolean, 2) := by decide +kernel
theorem dX7_init_133 : decode cX7_init 133 = .ok (.putfield 58, 3) := by decide +kernel
theorem dX7_init_136 : decode cX7_init 136 = .ok (.aload_n 0, 1) := by decide +kernel
theorem dX7_init_137 : decode cX7_init 137 = .ok (.getfield 7, 3) := by decide +kernel
theorem dX7_init_140 : decode cX7_init 140 = .ok (.iconst 0, 1) := by decide +kernel
theorem dX7_init_141 : decode cX7_init 141 = .ok (.iconst 1, 1) := by decide +kernel
theorem dX7_init_142 : decode cX7_init 142 = .ok (.bipush 10, 2) := by decide +kernel
theorem dX7_init_144 : decode cX7_init 144 = .ok (.invokestatic 61, 3) := by decide +kernel
theorem dX7_init_147 : decode cX7_init 147 = .ok (.return_, 1) := by decide +kernel
theorem dX7_thrown_0 : decode cX7_thrown 0 = .ok (.aload_n 0, 1) := by decide +kernel
theorem dX7_thrown_1 : decode cX7_thrown 1 = .ok (.getfield 65, 3) := by decide +kernel
theorem dX7_thrown_4 : decode cX7_thrown 4 = .ok (.ireturn, 1) := by decide +kernel
theorem dX7_within_0 : decode cX7_within 0 = .ok (.iload_n 0, 1) := by decide +kernel
theorem dX7_within_1 : decode cX7_within 1 = .ok (.iload_n 1, 1) := by decide +kernel
theorem dX7_within_2 : decode cX7_within 2 = .ok (.if_icmp .lt 12, 3) := by decide +kernel
theorem dX7_within_5 : decode cX7_within 5 = .ok (.iload_n 0, 1) := by decide +kernel
theorem dX7_within_6 : decode cX7_within 6 = .ok (.iload_n 2, 1) := by decide +kernel
theorem dX7_within_7 : decode cX7_within 7 = .ok (.if_icmp .gt 7, 3) := by decide +kernel
theorem dX7_within_10 : decode cX7_within 10 = .ok (.iconst 1, 1) := by decide +kernel
theorem dX7_within_11 : decode cX7_within 11 = .ok (.goto 4, 3) := by decide +kernel
theorem dX7_within_14 : decode cX7_within 14 = .ok (.iconst 0, 1) := by decide +kernel
theorem dX7_within_15 : decode cX7_within 15 = .ok (.ireturn, 1) := by decide +kernel
theorem dX7_throwsIf_0 : decode cX7_throwsIf 0 = .ok (.aload_n 0, 1) := by decide +kernel
theorem dX7_throwsIf_1 : decode cX7_throwsIf 1 = .ok (.getfield 65, 3) := by decide +kernel
theorem dX7_throwsIf_4 : decode cX7_throwsIf 4 = .ok (.ifCond .ne 12, 3) := by decide +kernel
theorem dX7_throwsIf_7 : decode cX7_throwsIf 7 = .ok (.iload_n 1, 1) := by decide +kernel
theorem dX7_throwsIf_8 : decode cX7_throwsIf 8 = .ok (.ifCond .eq 8, 3) := by decide +kernel
theorem dX7_throwsIf_11 : decode cX7_throwsIf 11 = .ok (.aload_n 0, 1) := by decide +kernel
theorem dX7_throwsIf_12 : decode cX7_throwsIf 12 = .ok (.iload_n 2, 1) := by decide +kernel
theorem dX7_throwsIf_13 : decode cX7_throwsIf 13 = .ok (.putfield 65, 3) := by decide +kernel
theorem dX7_throwsIf_16 : decode cX7_throwsIf 16 = .ok (.aload_n 0, 1) := by decide +kernel
theorem dX7_throwsIf_17 : decode cX7_throwsIf 17 = .ok (.getfield 65, 3) := by decide +kernel
theorem dX7_throwsIf_20 : decode cX7_throwsIf 20 = .ok (.ifCond .le 7, 3) := by decide +kernel
theorem dX7_throwsIf_23 : decode cX7_throwsIf 23 = .ok (.iconst 1, 1) := by decide +kernel
theorem dX7_throwsIf_24 : decode cX7_throwsIf 24 = .ok (.goto 4, 3) := by decide +kernel
theorem dX7_throwsIf_27 : decode cX7_throwsIf 27 = .ok (.iconst 0, 1) := by decide +kernel
theorem dX7_throwsIf_28 : decode cX7_throwsIf 28 = .ok (.ireturn, 1) := by decide +kernel
theorem dX7_begins_0 : decode cX7_begins 0 = .ok (.iconst 0, 1) := by decide +kernel
theorem dX7_begins_1 : decode cX7_begins 1 = .ok (.istore 4, 2) := by decide +kernel
theorem dX7_begins_3 : decode cX7_begins 3 = .ok (.iload 4, 2) := by decide +kernel
theorem dX7_begins_5 : decode cX7_begins 5 = .ok (.sipush 183, 3) := by decide +kernel
theorem dX7_begins_8 : decode cX7_begins 8 = .ok (.if_icmp .ge 14, 3) := by decide +kernel
theorem dX7_begins_11 : decode cX7_begins 11 = .ok (.aload_n 0, 1) := by decide +kernel
theorem dX7_begins_12 : decode cX7_begins 12 = .ok (.iload 4, 2) := by decide +kernel
theorem dX7_begins_14 : decode cX7_begins 14 = .ok (.iconst 0, 1) := by decide +kernel
theorem dX7_begins_15 : decode cX7_begins 15 = .ok (.iastore, 1) := by decide +kernel
theorem dX7_begins_16 : decode cX7_begins 16 = .ok (.iinc 4 1, 3) := by decide +kernel
theorem dX7_begins_19 : decode cX7_begins 19 = .ok (.goto (-16), 3) := by decide +kernel
theorem dX7_begins_22 : decode cX7_begins 22 = .ok (.aload_n 0, 1) := by decide +kernel
theorem dX7_begins_23 : decode cX7_begins 23 = .ok (.iconst 0, 1) := by decide +kernel
theorem dX7_begins_24 : decode cX7_begins 24 = .ok (.iload_n 1, 1) := by decide +kernel
theorem dX7_begins_25 : decode cX7_begins 25 = .ok (.iastore, 1) := by decide +kernel
theorem dX7_begins_26 : decode cX7_begins 26 = .ok (.aload_n 0, 1) := by decide +kernel
theorem dX7_begins_27 : decode cX7_begins 27 = .ok (.iconst 1, 1) := by decide +kernel
theorem dX7_begins_28 : decode cX7_begins 28 = .ok (.iload_n 2, 1) := by decide +kernel
theorem dX7_begins_29 : decode cX7_begins 29 = .ok (.iastore, 1) := by decide +kernel
theorem dX7_begins_30 : decode cX7_begins 30 = .ok (.aload_n 0, 1) := by decide +kernel
theorem dX7_begins_31 : decode cX7_begins 31 = .ok (.iconst 2, 1) := by decide +kernel
theorem dX7_begins_32 : decode cX7_begins 32 = .ok (.iload_n 3, 1) := by decide +kernel
theorem dX7_begins_33 : decode cX7_begins 33 = .ok (.iastore, 1) := by decide +kernel
theorem dX7_begins_34 : decode cX7_begins 34 = .ok (.aload_n 0, 1) := by decide +kernel
theorem dX7_begins_35 : decode cX7_begins 35 = .ok (.iconst 3, 1) := by decide +kernel
theorem dX7_begins_36 : decode cX7_begins 36 = .ok (.iconst 1, 1) := by decide +kernel
theorem dX7_begins_37 : decode cX7_begins 37 = .ok (.iastore, 1) := by decide +kernel
theorem dX7_begins_38 : decode cX7_begins 38 = .ok (.aload_n 0, 1) := by decide +kernel
theorem dX7_begins_39 : decode cX7_begins 39 = .ok (.iconst 4, 1) := by decide +kernel
theorem dX7_begins_40 : decode cX7_begins 40 = .ok (.bipush 8, 2) := by decide +kernel
theorem dX7_begins_42 : decode cX7_begins 42 = .ok (.iastore, 1) := by decide +kernel
theorem dX7_begins_43 : decode cX7_begins 43 = .ok (.aload_n 0, 1) := by decide +kernel
theorem dX7_begins_44 : decode cX7_begins 44 = .ok (.iconst 5, 1) := by decide +kernel
theorem dX7_begins_45 : decode cX7_begins 45 = .ok (.iconst 2, 1) := by decide +kernel
theorem dX7_begins_46 : decode cX7_begins 46 = .ok (.iastore, 1) := by decide +kernel
theorem dX7_begins_47 : decode cX7_begins 47 = .ok (.aload_n 0, 1) := by decide +kernel
theorem dX7_begins_48 : decode cX7_begins 48 = .ok (.bipush 6, 2) := by decide +kernel
theorem dX7_begins_50 : decode cX7_begins 50 = .ok (.iconst 4, 1) := by decide +kernel
theorem dX7_begins_51 : decode cX7_begins 51 = .ok (.iastore, 1) := by decide +kernel
theorem dX7_begins_52 : decode cX7_begins 52 = .ok (.aload_n 0, 1) := by decide +kernel
theorem dX7_begins_53 : decode cX7_begins 53 = .ok (.bipush 7, 2) := by decide +kernel
theorem dX7_begins_55 : decode cX7_begins 55 = .ok (.bipush 50, 2) := by decide +kernel
theorem dX7_begins_57 : decode cX7_begins 57 = .ok (.iastore, 1) := by decide +kernel
theorem dX7_begins_58 : decode cX7_begins 58 = .ok (.return_, 1) := by decide +kernel
theorem dX7_lowOf_0 : decode cX7_lowOf 0 = .ok (.iload_n 0, 1) := by decide +kernel
theorem dX7_lowOf_1 : decode cX7_lowOf 1 = .ok (.ifCond .ne 7, 3) := by decide +kernel
theorem dX7_lowOf_4 : decode cX7_lowOf 4 = .ok (.iconst 0, 1) := by decide +kernel
theorem dX7_lowOf_5 : decode cX7_lowOf 5 = .ok (.goto 24, 3) := by decide +kernel
theorem dX7_lowOf_8 : decode cX7_lowOf 8 = .ok (.iload_n 0, 1) := by decide +kernel
theorem dX7_lowOf_9 : decode cX7_lowOf 9 = .ok (.iconst 2, 1) := by decide +kernel
theorem dX7_lowOf_10 : decode cX7_lowOf 10 = .ok (.if_icmp .ne 8, 3) := by decide +kernel
theorem dX7_lowOf_13 : decode cX7_lowOf 13 = .ok (.bipush 10, 2) := by decide +kernel
theorem dX7_lowOf_15 : decode cX7_lowOf 15 = .ok (.goto 14, 3) := by decide +kernel
theorem dX7_lowOf_18 : decode cX7_lowOf 18 = .ok (.iload_n 0, 1) := by decide +kernel
theorem dX7_lowOf_19 : decode cX7_lowOf 19 = .ok (.bipush 6, 2) := by decide +kernel
theorem dX7_lowOf_21 : decode cX7_lowOf 21 = .ok (.if_icmp .ne 7, 3) := by decide +kernel
theorem dX7_lowOf_24 : decode cX7_lowOf 24 = .ok (.iconst 2, 1) := by decide +kernel
theorem dX7_lowOf_25 : decode cX7_lowOf 25 = .ok (.goto 4, 3) := by decide +kernel
theorem dX7_lowOf_28 : decode cX7_lowOf 28 = .ok (.iconst 1, 1) := by decide +kernel
theorem dX7_lowOf_29 : decode cX7_lowOf 29 = .ok (.ireturn, 1) := by decide +kernel
theorem dX7_highOf_0 : decode cX7_highOf 0 = .ok (.iload_n 0, 1) := by decide +kernel
theorem dX7_highOf_1 : decode cX7_highOf 1 = .ok (.tableswitch 58 0 6 #[43, 45, 58, 48, 50, 53, 55], 43) := by decide +kernel
theorem dX7_highOf_44 : decode cX7_highOf 44 = .ok (.iconst 2, 1) := by decide +kernel
theorem dX7_highOf_45 : decode cX7_highOf 45 = .ok (.ireturn, 1) := by decide +kernel
theorem dX7_highOf_46 : decode cX7_highOf 46 = .ok (.bipush 8, 2) := by decide +kernel
theorem dX7_highOf_48 : decode cX7_highOf 48 = .ok (.ireturn, 1) := by decide +kernel
theorem dX7_highOf_49 : decode cX7_highOf 49 = .ok (.iconst 5, 1) := by decide +kernel
theorem dX7_highOf_50 : decode cX7_highOf 50 = .ok (.ireturn, 1) := by decide +kernel
theorem dX7_highOf_51 : decode cX7_highOf 51 = .ok (.bipush 20, 2) := by decide +kernel
theorem dX7_highOf_53 : decode cX7_highOf 53 = .ok (.ireturn, 1) := by decide +kernel
theorem dX7_highOf_54 : decode cX7_highOf 54 = .ok (.iconst 4, 1) := by decide +kernel
theorem dX7_highOf_55 : decode cX7_highOf 55 = .ok (.ireturn, 1) := by decide +kernel
theorem dX7_highOf_56 : decode cX7_highOf 56 = .ok (.bipush 8, 2) := by decide +kernel
theorem dX7_highOf_58 : decode cX7_highOf 58 = .ok (.ireturn, 1) := by decide +kernel
theorem dX7_highOf_59 : decode cX7_highOf 59 = .ok (.sipush 200, 3) := by decide +kernel
theorem dX7_highOf_62 : decode cX7_highOf 62 = .ok (.ireturn, 1) := by decide +kernel
theorem dX7_append_0 : decode cX7_append 0 = .ok (.aload_n 0, 1) := by decide +kernel
theorem dX7_append_1 : decode cX7_append 1 = .ok (.iconst 0, 1) := by decide +kernel
theorem dX7_append_2 : decode cX7_append 2 = .ok (.putfield 65, 3) := by decide +kernel
theorem dX7_append_5 : decode cX7_append 5 = .ok (.aload_n 0, 1) := by decide +kernel
theorem dX7_append_6 : decode cX7_append 6 = .ok (.getfield 68, 3) := by decide +kernel
theorem dX7_append_9 : decode cX7_append 9 = .ok (.bipush 20, 2) := by decide +kernel
theorem dX7_append_11 : decode cX7_append 11 = .ok (.iadd, 1) := by decide +kernel
theorem dX7_append_12 : decode cX7_append 12 = .ok (.sipush 500, 3) := by decide +kernel
theorem dX7_append_15 : decode cX7_append 15 = .ok (.if_icmp .le 5, 3) := by decide +kernel
theorem dX7_append_18 : decode cX7_append 18 = .ok (.iconst (-1), 1) := by decide +kernel
theorem dX7_append_19 : decode cX7_append 19 = .ok (.ireturn, 1) := by decide +kernel
theorem dX7_append_20 : decode cX7_append 20 = .ok (.aload_n 0, 1) := by decide +kernel
theorem dX7_append_21 : decode cX7_append 21 = .ok (.iload_n 1, 1) := by decide +kernel
theorem dX7_append_22 : decode cX7_append 22 = .ok (.invokevirtual 71, 3) := by decide +kernel
theorem dX7_append_25 : decode cX7_append 25 = .ok (.aload_n 0, 1) := by decide +kernel
theorem dX7_append_26 : decode cX7_append 26 = .ok (.iload_n 2, 1) := by decide +kernel
theorem dX7_append_27 : decode cX7_append 27 = .ok (.invokevirtual 71, 3) := by decide +kernel
theorem dX7_append_30 : decode cX7_append 30 = .ok (.aload_n 0, 1) := by decide +kernel
theorem dX7_append_31 : decode cX7_append 31 = .ok (.iload_n 3, 1) := by decide +kernel
theorem dX7_append_32 : decode cX7_append 32 = .ok (.invokevirtual 71, 3) := by decide +kernel
theorem dX7_append_35 : decode cX7_append 35 = .ok (.aload_n 0, 1) := by decide +kernel
theorem dX7_append_36 : decode cX7_append 36 = .ok (.iload 4, 2) := by decide +kernel
theorem dX7_append_38 : decode cX7_append 38 = .ok (.invokevirtual 71, 3) := by decide +kernel
theorem dX7_append_41 : decode cX7_append 41 = .ok (.aload_n 0, 1) := by decide +kernel
theorem dX7_append_42 : decode cX7_append 42 = .ok (.iload 5, 2) := by decide +kernel
theorem dX7_append_44 : decode cX7_append 44 = .ok (.invokevirtual 71, 3) := by decide +kernel
theorem dX7_append_47 : decode cX7_append 47 = .ok (.aload_n 0, 1) := by decide +kernel
theorem dX7_append_48 : decode cX7_append 48 = .ok (.getfield 68, 3) := by decide +kernel
theorem dX7_append_51 : decode cX7_append 51 = .ok (.ireturn, 1) := by decide +kernel
theorem dX7_bytesOf_0 : decode cX7_bytesOf 0 = .ok (.bipush 24, 2) := by decide +kernel
theorem dX7_bytesOf_2 : decode cX7_bytesOf 2 = .ok (.istore_n 2, 1) := by decide +kernel
theorem dX7_bytesOf_3 : decode cX7_bytesOf 3 = .ok (.iload_n 2, 1) := by decide +kernel
theorem dX7_bytesOf_4 : decode cX7_bytesOf 4 = .ok (.ifCond .lt 32, 3) := by decide +kernel
theorem dX7_bytesOf_7 : decode cX7_bytesOf 7 = .ok (.aload_n 0, 1) := by decide +kernel
theorem dX7_bytesOf_8 : decode cX7_bytesOf 8 = .ok (.getfield 13, 3) := by decide +kernel
theorem dX7_bytesOf_11 : decode cX7_bytesOf 11 = .ok (.aload_n 0, 1) := by decide +kernel
theorem dX7_bytesOf_12 : decode cX7_bytesOf 12 = .ok (.getfield 68, 3) := by decide +kernel
theorem dX7_bytesOf_15 : decode cX7_bytesOf 15 = .ok (.iload_n 1, 1) := by decide +kernel
theorem dX7_bytesOf_16 : decode cX7_bytesOf 16 = .ok (.iload_n 2, 1) := by decide +kernel
theorem dX7_bytesOf_17 : decode cX7_bytesOf 17 = .ok (.ishr, 1) := by decide +kernel
theorem dX7_bytesOf_18 : decode cX7_bytesOf 18 = .ok (.i2b, 1) := by decide +kernel
theorem dX7_bytesOf_19 : decode cX7_bytesOf 19 = .ok (.bastore, 1) := by decide +kernel
theorem dX7_bytesOf_20 : decode cX7_bytesOf 20 = .ok (.aload_n 0, 1) := by decide +kernel
theorem dX7_bytesOf_21 : decode cX7_bytesOf 21 = .ok (.dup, 1) := by decide +kernel
theorem dX7_bytesOf_22 : decode cX7_bytesOf 22 = .ok (.getfield 68, 3) := by decide +kernel
theorem dX7_bytesOf_25 : decode cX7_bytesOf 25 = .ok (.iconst 1, 1) := by decide +kernel
theorem dX7_bytesOf_26 : decode cX7_bytesOf 26 = .ok (.iadd, 1) := by decide +kernel
theorem dX7_bytesOf_27 : decode cX7_bytesOf 27 = .ok (.putfield 68, 3) := by decide +kernel
theorem dX7_bytesOf_30 : decode cX7_bytesOf 30 = .ok (.iinc 2 (-8), 3) := by decide +kernel
theorem dX7_bytesOf_33 : decode cX7_bytesOf 33 = .ok (.goto (-30), 3) := by decide +kernel
theorem dX7_bytesOf_36 : decode cX7_bytesOf 36 = .ok (.return_, 1) := by decide +kernel
theorem dX7_byteAt_0 : decode cX7_byteAt 0 = .ok (.iload_n 1, 1) := by decide +kernel
theorem dX7_byteAt_1 : decode cX7_byteAt 1 = .ok (.aload_n 0, 1) := by decide +kernel
theorem dX7_byteAt_2 : decode cX7_byteAt 2 = .ok (.getfield 75, 3) := by decide +kernel
theorem dX7_byteAt_5 : decode cX7_byteAt 5 = .ok (.if_icmp .ge 16, 3) := by decide +kernel
theorem dX7_byteAt_8 : decode cX7_byteAt 8 = .ok (.aload_n 0, 1) := by decide +kernel
theorem dX7_byteAt_9 : decode cX7_byteAt 9 = .ok (.getfield 13, 3) := by decide +kernel
theorem dX7_byteAt_12 : decode cX7_byteAt 12 = .ok (.iload_n 1, 1) := by decide +kernel
theorem dX7_byteAt_13 : decode cX7_byteAt 13 = .ok (.baload, 1) := by decide +kernel
theorem dX7_byteAt_14 : decode cX7_byteAt 14 = .ok (.sipush 255, 3) := by decide +kernel
theorem dX7_byteAt_17 : decode cX7_byteAt 17 = .ok (.iand, 1) := by decide +kernel
theorem dX7_byteAt_18 : decode cX7_byteAt 18 = .ok (.goto 4, 3) := by decide +kernel
theorem dX7_byteAt_21 : decode cX7_byteAt 21 = .ok (.iconst (-1), 1) := by decide +kernel
theorem dX7_byteAt_22 : decode cX7_byteAt 22 = .ok (.ireturn, 1) := by decide +kernel
theorem dX7_advance_0 : decode cX7_advance 0 = .ok (.aload_n 0, 1) := by decide +kernel
theorem dX7_advance_1 : decode cX7_advance 1 = .ok (.aload_n 0, 1) := by decide +kernel
theorem dX7_advance_2 : decode cX7_advance 2 = .ok (.getfield 78, 3) := by decide +kernel
theorem dX7_advance_5 : decode cX7_advance 5 = .ok (.invokevirtual 81, 3) := by decide +kernel
theorem dX7_advance_8 : decode cX7_advance 8 = .ok (.bipush 32, 2) := by decide +kernel
theorem dX7_advance_10 : decode cX7_advance 10 = .ok (.if_icmp .eq 16, 3) := by decide +kernel
theorem dX7_advance_13 : decode cX7_advance 13 = .ok (.aload_n 0, 1) := by decide +kernel
theorem dX7_advance_14 : decode cX7_advance 14 = .ok (.aload_n 0, 1) := by decide +kernel
theorem dX7_advance_15 : decode cX7_advance 15 = .ok (.getfield 78, 3) := by decide +kernel
theorem dX7_advance_18 : decode cX7_advance 18 = .ok (.invokevirtual 81, 3) := by decide +kernel
theorem dX7_advance_21 : decode cX7_advance 21 = .ok (.bipush 10, 2) := by decide +kernel
theorem dX7_advance_23 : decode cX7_advance 23 = .ok (.if_icmp .ne 16, 3) := by decide +kernel
theorem dX7_advance_26 : decode cX7_advance 26 = .ok (.aload_n 0, 1) := by decide +kernel
theorem dX7_advance_27 : decode cX7_advance 27 = .ok (.dup, 1) := by decide +kernel
theorem dX7_advance_28 : decode cX7_advance 28 = .ok (.getfield 78, 3) := by decide +kernel
theorem dX7_advance_31 : decode cX7_advance 31 = .ok (.iconst 1, 1) := by decide +kernel
theorem dX7_advance_32 : decode cX7_advance 32 = .ok (.iadd, 1) := by decide +kernel
theorem dX7_advance_33 : decode cX7_advance 33 = .ok (.putfield 78, 3) := by decide +kernel
theorem dX7_advance_36 : decode cX7_advance 36 = .ok (.goto (-36), 3) := by decide +kernel
theorem dX7_advance_39 : decode cX7_advance 39 = .ok (.aload_n 0, 1) := by decide +kernel
theorem dX7_advance_40 : decode cX7_advance 40 = .ok (.aload_n 0, 1) := by decide +kernel
theorem dX7_advance_41 : decode cX7_advance 41 = .ok (.getfield 78, 3) := by decide +kernel
theorem dX7_advance_44 : decode cX7_advance 44 = .ok (.putfield 85, 3) := by decide +kernel
theorem dX7_advance_47 : decode cX7_advance 47 = .ok (.aload_n 0, 1) := by decide +kernel
theorem dX7_advance_48 : decode cX7_advance 48 = .ok (.iconst 0, 1) := by decide +kernel
theorem dX7_advance_49 : decode cX7_advance 49 = .ok (.putfield 88, 3) := by decide +kernel
theorem dX7_advance_52 : decode cX7_advance 52 = .ok (.aload_n 0, 1) := by decide +kernel
theorem dX7_advance_53 : decode cX7_advance 53 = .ok (.aload_n 0, 1) := by decide +kernel
theorem dX7_advance_54 : decode cX7_advance 54 = .ok (.getfield 78, 3) := by decide +kernel
theorem dX7_advance_57 : decode cX7_advance 57 = .ok (.invokevirtual 81, 3) := by decide +kernel
theorem dX7_advance_60 : decode cX7_advance 60 = .ok (.istore_n 1, 1) := by decide +kernel
theorem dX7_advance_61 : decode cX7_advance 61 = .ok (.iload_n 1, 1) := by decide +kernel
theorem dX7_advance_62 : decode cX7_advance 62 = .ok (.iconst (-1), 1) := by decide +kernel
theorem dX7_advance_63 : decode cX7_advance 63 = .ok (.if_icmp .ne 11, 3) := by decide +kernel
theorem dX7_advance_66 : decode cX7_advance 66 = .ok (.aload_n 0, 1) := by decide +kernel
theorem dX7_advance_67 : decode cX7_advance 67 = .ok (.iconst 0, 1) := by decide +kernel
theorem dX7_advance_68 : decode cX7_advance 68 = .ok (.putfield 91, 3) := by decide +kernel
theorem dX7_advance_71 : decode cX7_advance 71 = .ok (.goto 206, 3) := by decide +kernel
theorem dX7_advance_74 : decode cX7_advance 74 = .ok (.iload_n 1, 1) := by decide +kernel
theorem dX7_advance_75 : decode cX7_advance 75 = .ok (.bipush 97, 2) := by decide +kernel
theorem dX7_advance_77 : decode cX7_advance 77 = .ok (.bipush 122, 2) := by decide +kernel
theorem dX7_advance_79 : decode cX7_advance 79 = .ok (.invokestatic 94, 3) := by decide +kernel
theorem dX7_advance_82 : decode cX7_advance 82 = .ok (.ifCond .eq 60, 3) := by decide +kernel
theorem dX7_advance_85 : decode cX7_advance 85 = .ok (.aload_n 0, 1) := by decide +kernel
theorem dX7_advance_86 : decode cX7_advance 86 = .ok (.aload_n 0, 1) := by decide +kernel
theorem dX7_advance_87 : decode cX7_advance 87 = .ok (.getfield 78, 3) := by decide +kernel
theorem dX7_advance_90 : decode cX7_advance 90 = .ok (.invokevirtual 81, 3) := by decide +kernel
theorem dX7_advance_93 : decode cX7_advance 93 = .ok (.bipush 97, 2) := by decide +kernel
theorem dX7_advance_95 : decode cX7_advance 95 = .ok (.bipush 122, 2) := by decide +kernel
theorem dX7_advance_97 : decode cX7_advance 97 = .ok (.invokestatic 94, 3) := by decide +kernel
theorem dX7_advance_100 : decode cX7_advance 100 = .ok (.ifCond .eq 16, 3) := by decide +kernel
theorem dX7_advance_103 : decode cX7_advance 103 = .ok (.aload_n 0, 1) := by decide +kernel
theorem dX7_advance_104 : decode cX7_advance 104 = .ok (.dup, 1) := by decide +kernel
theorem dX7_advance_105 : decode cX7_advance 105 = .ok (.getfield 78, 3) := by decide +kernel
theorem dX7_advance_108 : decode cX7_advance 108 = .ok (.iconst 1, 1) := by decide +kernel
theorem dX7_advance_109 : decode cX7_advance 109 = .ok (.iadd, 1) := by decide +kernel
theorem dX7_advance_110 : decode cX7_advance 110 = .ok (.putfield 78, 3) := by decide +kernel
theorem dX7_advance_113 : decode cX7_advance 113 = .ok (.goto (-28), 3) := by decide +kernel
theorem dX7_advance_116 : decode cX7_advance 116 = .ok (.aload_n 0, 1) := by decide +kernel
theorem dX7_advance_117 : decode cX7_advance 117 = .ok (.aload_n 0, 1) := by decide +kernel
theorem dX7_advance_118 : decode cX7_advance 118 = .ok (.getfield 78, 3) := by decide +kernel
theorem dX7_advance_121 : decode cX7_advance 121 = .ok (.aload_n 0, 1) := by decide +kernel
theorem dX7_advance_122 : decode cX7_advance 122 = .ok (.getfield 85, 3) := by decide +kernel
theorem dX7_advance_125 : decode cX7_advance 125 = .ok (.isub, 1) := by decide +kernel
theorem dX7_advance_126 : decode cX7_advance 126 = .ok (.bipush 9, 2) := by decide +kernel
theorem dX7_advance_128 : decode cX7_advance 128 = .ok (.if_icmp .le 7, 3) := by decide +kernel
theorem dX7_advance_131 : decode cX7_advance 131 = .ok (.iconst 4, 1) := by decide +kernel
theorem dX7_advance_132 : decode cX7_advance 132 = .ok (.goto 4, 3) := by decide +kernel
theorem dX7_advance_135 : decode cX7_advance 135 = .ok (.iconst 1, 1) := by decide +kernel
theorem dX7_advance_136 : decode cX7_advance 136 = .ok (.putfield 91, 3) := by decide +kernel
theorem dX7_advance_139 : decode cX7_advance 139 = .ok (.goto 138, 3) := by decide +kernel
theorem dX7_advance_142 : decode cX7_advance 142 = .ok (.iload_n 1, 1) := by decide +kernel
theorem dX7_advance_143 : decode cX7_advance 143 = .ok (.bipush 48, 2) := by decide +kernel
theorem dX7_advance_145 : decode cX7_advance 145 = .ok (.bipush 57, 2) := by decide +kernel
theorem dX7_advance_147 : decode cX7_advance 147 = .ok (.invokestatic 94, 3) := by decide +kernel
theorem dX7_advance_150 : decode cX7_advance 150 = .ok (.ifCond .eq 102, 3) := by decide +kernel
theorem dX7_advance_153 : decode cX7_advance 153 = .ok (.aload_n 0, 1) := by decide +kernel
theorem dX7_advance_154 : decode cX7_advance 154 = .ok (.aload_n 0, 1) := by decide +kernel
theorem dX7_advance_155 : decode cX7_advance 155 = .ok (.getfield 78, 3) := by decide +kernel
theorem dX7_advance_158 : decode cX7_advance 158 = .ok (.invokevirtual 81, 3) := by decide +kernel
theorem dX7_advance_161 : decode cX7_advance 161 = .ok (.bipush 48, 2) := by decide +kernel
theorem dX7_advance_163 : decode cX7_advance 163 = .ok (.bipush 57, 2) := by decide +kernel
theorem dX7_advance_165 : decode cX7_advance 165 = .ok (.invokestatic 94, 3) := by decide +kernel
theorem dX7_advance_168 : decode cX7_advance 168 = .ok (.ifCond .eq 59, 3) := by decide +kernel
theorem dX7_advance_171 : decode cX7_advance 171 = .ok (.aload_n 0, 1) := by decide +kernel
theorem dX7_advance_172 : decode cX7_advance 172 = .ok (.aload_n 0, 1) := by decide +kernel
theorem dX7_advance_173 : decode cX7_advance 173 = .ok (.getfield 78, 3) := by decide +kernel
theorem dX7_advance_176 : decode cX7_advance 176 = .ok (.aload_n 0, 1) := by decide +kernel
theorem dX7_advance_177 : decode cX7_advance 177 = .ok (.getfield 85, 3) := by decide +kernel
theorem dX7_advance_180 : decode cX7_advance 180 = .ok (.isub, 1) := by decide +kernel
theorem dX7_advance_181 : decode cX7_advance 181 = .ok (.iconst 3, 1) := by decide +kernel
theorem dX7_advance_182 : decode cX7_advance 182 = .ok (.if_icmp .ge 25, 3) := by decide +kernel
theorem dX7_advance_185 : decode cX7_advance 185 = .ok (.bipush 10, 2) := by decide +kernel
theorem dX7_advance_187 : decode cX7_advance 187 = .ok (.aload_n 0, 1) := by decide +kernel
theorem dX7_advance_188 : decode cX7_advance 188 = .ok (.getfield 88, 3) := by decide +kernel
theorem dX7_advance_191 : decode cX7_advance 191 = .ok (.imul, 1) := by decide +kernel
theorem dX7_advance_192 : decode cX7_advance 192 = .ok (.aload_n 0, 1) := by decide +kernel
theorem dX7_advance_193 : decode cX7_advance 193 = .ok (.aload_n 0, 1) := by decide +kernel
theorem dX7_advance_194 : decode cX7_advance 194 = .ok (.getfield 78, 3) := by decide +kernel
theorem dX7_advance_197 : decode cX7_advance 197 = .ok (.invokevirtual 81, 3) := by decide +kernel
theorem dX7_advance_200 : decode cX7_advance 200 = .ok (.iadd, 1) := by decide +kernel
theorem dX7_advance_201 : decode cX7_advance 201 = .ok (.bipush 48, 2) := by decide +kernel
theorem dX7_advance_203 : decode cX7_advance 203 = .ok (.isub, 1) := by decide +kernel
theorem dX7_advance_204 : decode cX7_advance 204 = .ok (.goto 7, 3) := by decide +kernel
theorem dX7_advance_207 : decode cX7_advance 207 = .ok (.aload_n 0, 1) := by decide +kernel
theorem dX7_advance_208 : decode cX7_advance 208 = .ok (.getfield 88, 3) := by decide +kernel
theorem dX7_advance_211 : decode cX7_advance 211 = .ok (.putfield 88, 3) := by decide +kernel
theorem dX7_advance_214 : decode cX7_advance 214 = .ok (.aload_n 0, 1) := by decide +kernel
theorem dX7_advance_215 : decode cX7_advance 215 = .ok (.dup, 1) := by decide +kernel
theorem dX7_advance_216 : decode cX7_advance 216 = .ok (.getfield 78, 3) := by decide +kernel
theorem dX7_advance_219 : decode cX7_advance 219 = .ok (.iconst 1, 1) := by decide +kernel
theorem dX7_advance_220 : decode cX7_advance 220 = .ok (.iadd, 1) := by decide +kernel
theorem dX7_advance_221 : decode cX7_advance 221 = .ok (.putfield 78, 3) := by decide +kernel
theorem dX7_advance_224 : decode cX7_advance 224 = .ok (.goto (-71), 3) := by decide +kernel
theorem dX7_advance_227 : decode cX7_advance 227 = .ok (.aload_n 0, 1) := by decide +kernel
theorem dX7_advance_228 : decode cX7_advance 228 = .ok (.aload_n 0, 1) := by decide +kernel
theorem dX7_advance_229 : decode cX7_advance 229 = .ok (.getfield 78, 3) := by decide +kernel
theorem dX7_advance_232 : decode cX7_advance 232 = .ok (.aload_n 0, 1) := by decide +kernel
theorem dX7_advance_233 : decode cX7_advance 233 = .ok (.getfield 85, 3) := by decide +kernel
theorem dX7_advance_236 : decode cX7_advance 236 = .ok (.isub, 1) := by decide +kernel
theorem dX7_advance_237 : decode cX7_advance 237 = .ok (.iconst 3, 1) := by decide +kernel
theorem dX7_advance_238 : decode cX7_advance 238 = .ok (.if_icmp .le 7, 3) := by decide +kernel
theorem dX7_advance_241 : decode cX7_advance 241 = .ok (.iconst 4, 1) := by decide +kernel
theorem dX7_advance_242 : decode cX7_advance 242 = .ok (.goto 4, 3) := by decide +kernel
theorem dX7_advance_245 : decode cX7_advance 245 = .ok (.iconst 2, 1) := by decide +kernel
theorem dX7_advance_246 : decode cX7_advance 246 = .ok (.putfield 91, 3) := by decide +kernel
theorem dX7_advance_249 : decode cX7_advance 249 = .ok (.goto 28, 3) := by decide +kernel
theorem dX7_advance_252 : decode cX7_advance 252 = .ok (.aload_n 0, 1) := by decide +kernel
theorem dX7_advance_253 : decode cX7_advance 253 = .ok (.dup, 1) := by decide +kernel
theorem dX7_advance_254 : decode cX7_advance 254 = .ok (.getfield 78, 3) := by decide +kernel
theorem dX7_advance_257 : decode cX7_advance 257 = .ok (.iconst 1, 1) := by decide +kernel
theorem dX7_advance_258 : decode cX7_advance 258 = .ok (.iadd, 1) := by decide +kernel
theorem dX7_advance_259 : decode cX7_advance 259 = .ok (.putfield 78, 3) := by decide +kernel
theorem dX7_advance_262 : decode cX7_advance 262 = .ok (.aload_n 0, 1) := by decide +kernel
theorem dX7_advance_263 : decode cX7_advance 263 = .ok (.iload_n 1, 1) := by decide +kernel
theorem dX7_advance_264 : decode cX7_advance 264 = .ok (.bipush 59, 2) := by decide +kernel
theorem dX7_advance_266 : decode cX7_advance 266 = .ok (.if_icmp .ne 7, 3) := by decide +kernel
theorem dX7_advance_269 : decode cX7_advance 269 = .ok (.iconst 3, 1) := by decide +kernel
theorem dX7_advance_270 : decode cX7_advance 270 = .ok (.goto 4, 3) := by decide +kernel
theorem dX7_advance_273 : decode cX7_advance 273 = .ok (.iconst 4, 1) := by decide +kernel
theorem dX7_advance_274 : decode cX7_advance 274 = .ok (.putfield 91, 3) := by decide +kernel
theorem dX7_advance_277 : decode cX7_advance 277 = .ok (.return_, 1) := by decide +kernel
theorem dX7_isWord_0 : decode cX7_isWord 0 = .ok (.aload_n 0, 1) := by decide +kernel
theorem dX7_isWord_1 : decode cX7_isWord 1 = .ok (.getfield 91, 3) := by decide +kernel
theorem dX7_isWord_4 : decode cX7_isWord 4 = .ok (.iconst 1, 1) := by decide +kernel
theorem dX7_isWord_5 : decode cX7_isWord 5 = .ok (.if_icmp .ne 23, 3) := by decide +kernel
theorem dX7_isWord_8 : decode cX7_isWord 8 = .ok (.aload_n 0, 1) := by decide +kernel
theorem dX7_isWord_9 : decode cX7_isWord 9 = .ok (.getfield 78, 3) := by decide +kernel
theorem dX7_isWord_12 : decode cX7_isWord 12 = .ok (.aload_n 0, 1) := by decide +kernel
theorem dX7_isWord_13 : decode cX7_isWord 13 = .ok (.getfield 85, 3) := by decide +kernel
theorem dX7_isWord_16 : decode cX7_isWord 16 = .ok (.isub, 1) := by decide +kernel
theorem dX7_isWord_17 : decode cX7_isWord 17 = .ok (.aload_n 1, 1) := by decide +kernel
theorem dX7_isWord_18 : decode cX7_isWord 18 = .ok (.invokevirtual 98, 3) := by decide +kernel
theorem dX7_isWord_21 : decode cX7_isWord 21 = .ok (.if_icmp .ne 7, 3) := by decide +kernel
theorem dX7_isWord_24 : decode cX7_isWord 24 = .ok (.iconst 1, 1) := by decide +kernel
theorem dX7_isWord_25 : decode cX7_isWord 25 = .ok (.goto 4, 3) := by decide +kernel
theorem dX7_isWord_28 : decode cX7_isWord 28 = .ok (.iconst 0, 1) := by decide +kernel
theorem dX7_isWord_29 : decode cX7_isWord 29 = .ok (.istore_n 2, 1) := by decide +kernel
theorem dX7_isWord_30 : decode cX7_isWord 30 = .ok (.iconst 0, 1) := by decide +kernel
theorem dX7_isWord_31 : decode cX7_isWord 31 = .ok (.istore_n 3, 1) := by decide +kernel
theorem dX7_isWord_32 : decode cX7_isWord 32 = .ok (.iload_n 3, 1) := by decide +kernel
theorem dX7_isWord_33 : decode cX7_isWord 33 = .ok (.aload_n 1, 1) := by decide +kernel
theorem dX7_isWord_34 : decode cX7_isWord 34 = .ok (.invokevirtual 98, 3) := by decide +kernel
theorem dX7_isWord_37 : decode cX7_isWord 37 = .ok (.if_icmp .ge 38, 3) := by decide +kernel
theorem dX7_isWord_40 : decode cX7_isWord 40 = .ok (.iload_n 2, 1) := by decide +kernel
theorem dX7_isWord_41 : decode cX7_isWord 41 = .ok (.ifCond .eq 34, 3) := by decide +kernel
theorem dX7_isWord_44 : decode cX7_isWord 44 = .ok (.aload_n 0, 1) := by decide +kernel
theorem dX7_isWord_45 : decode cX7_isWord 45 = .ok (.getfield 13, 3) := by decide +kernel
theorem dX7_isWord_48 : decode cX7_isWord 48 = .ok (.aload_n 0, 1) := by decide +kernel
theorem dX7_isWord_49 : decode cX7_isWord 49 = .ok (.getfield 85, 3) := by decide +kernel
theorem dX7_isWord_52 : decode cX7_isWord 52 = .ok (.iload_n 3, 1) := by decide +kernel
theorem dX7_isWord_53 : decode cX7_isWord 53 = .ok (.iadd, 1) := by decide +kernel
theorem dX7_isWord_54 : decode cX7_isWord 54 = .ok (.baload, 1) := by decide +kernel
theorem dX7_isWord_55 : decode cX7_isWord 55 = .ok (.aload_n 1, 1) := by decide +kernel
theorem dX7_isWord_56 : decode cX7_isWord 56 = .ok (.iload_n 3, 1) := by decide +kernel
theorem dX7_isWord_57 : decode cX7_isWord 57 = .ok (.invokevirtual 103, 3) := by decide +kernel
theorem dX7_isWord_60 : decode cX7_isWord 60 = .ok (.if_icmp .ne 7, 3) := by decide +kernel
theorem dX7_isWord_63 : decode cX7_isWord 63 = .ok (.iconst 1, 1) := by decide +kernel
theorem dX7_isWord_64 : decode cX7_isWord 64 = .ok (.goto 4, 3) := by decide +kernel
theorem dX7_isWord_67 : decode cX7_isWord 67 = .ok (.iconst 0, 1) := by decide +kernel
theorem dX7_isWord_68 : decode cX7_isWord 68 = .ok (.istore_n 2, 1) := by decide +kernel
theorem dX7_isWord_69 : decode cX7_isWord 69 = .ok (.iinc 3 1, 3) := by decide +kernel
theorem dX7_isWord_72 : decode cX7_isWord 72 = .ok (.goto (-40), 3) := by decide +kernel
theorem dX7_isWord_75 : decode cX7_isWord 75 = .ok (.iload_n 2, 1) := by decide +kernel
theorem dX7_isWord_76 : decode cX7_isWord 76 = .ok (.ireturn, 1) := by decide +kernel
theorem dX7_fails_0 : decode cX7_fails 0 = .ok (.aload_n 0, 1) := by decide +kernel
theorem dX7_fails_1 : decode cX7_fails 1 = .ok (.getfield 107, 3) := by decide +kernel
theorem dX7_fails_4 : decode cX7_fails 4 = .ok (.ifCond .ne 16, 3) := by decide +kernel
theorem dX7_fails_7 : decode cX7_fails 7 = .ok (.aload_n 0, 1) := by decide +kernel
theorem dX7_fails_8 : decode cX7_fails 8 = .ok (.iload_n 1, 1) := by decide +kernel
theorem dX7_fails_9 : decode cX7_fails 9 = .ok (.putfield 107, 3) := by decide +kernel
theorem dX7_fails_12 : decode cX7_fails 12 = .ok (.aload_n 0, 1) := by decide +kernel
theorem dX7_fails_13 : decode cX7_fails 13 = .ok (.aload_n 0, 1) := by decide +kernel
theorem dX7_fails_14 : decode cX7_fails 14 = .ok (.getfield 85, 3) := by decide +kernel
theorem dX7_fails_17 : decode cX7_fails 17 = .ok (.putfield 17, 3) := by decide +kernel
theorem dX7_fails_20 : decode cX7_fails 20 = .ok (.iconst 0, 1) := by decide +kernel
theorem dX7_fails_21 : decode cX7_fails 21 = .ok (.ireturn, 1) := by decide +kernel
theorem dX7_starts_0 : decode cX7_starts 0 = .ok (.iload_n 2, 1) := by decide +kernel
theorem dX7_starts_1 : decode cX7_starts 1 = .ok (.ifCond .ne 9, 3) := by decide +kernel
theorem dX7_starts_4 : decode cX7_starts 4 = .ok (.aload_n 0, 1) := by decide +kernel
theorem dX7_starts_5 : decode cX7_starts 5 = .ok (.iload_n 1, 1) := by decide +kernel
theorem dX7_starts_6 : decode cX7_starts 6 = .ok (.invokevirtual 110, 3) := by decide +kernel
theorem dX7_starts_9 : decode cX7_starts 9 = .ok (.ireturn, 1) := by decide +kernel
theorem dX7_starts_10 : decode cX7_starts 10 = .ok (.aload_n 0, 1) := by decide +kernel
theorem dX7_starts_11 : decode cX7_starts 11 = .ok (.invokevirtual 114, 3) := by decide +kernel
theorem dX7_starts_14 : decode cX7_starts 14 = .ok (.iconst 1, 1) := by decide +kernel
theorem dX7_starts_15 : decode cX7_starts 15 = .ok (.ireturn, 1) := by decide +kernel
theorem dX7_takes_0 : decode cX7_takes 0 = .ok (.aload_n 0, 1) := by decide +kernel
theorem dX7_takes_1 : decode cX7_takes 1 = .ok (.getfield 91, 3) := by decide +kernel
theorem dX7_takes_4 : decode cX7_takes 4 = .ok (.iconst 2, 1) := by decide +kernel
theorem dX7_takes_5 : decode cX7_takes 5 = .ok (.if_icmp .eq 9, 3) := by decide +kernel
theorem dX7_takes_8 : decode cX7_takes 8 = .ok (.aload_n 0, 1) := by decide +kernel
theorem dX7_takes_9 : decode cX7_takes 9 = .ok (.iconst 1, 1) := by decide +kernel
theorem dX7_takes_10 : decode cX7_takes 10 = .ok (.invokevirtual 110, 3) := by decide +kernel
theorem dX7_takes_13 : decode cX7_takes 13 = .ok (.ireturn, 1) := by decide +kernel
theorem dX7_takes_14 : decode cX7_takes 14 = .ok (.aload_n 0, 1) := by decide +kernel
theorem dX7_takes_15 : decode cX7_takes 15 = .ok (.getfield 88, 3) := by decide +kernel
theorem dX7_takes_18 : decode cX7_takes 18 = .ok (.iload_n 1, 1) := by decide +kernel
theorem dX7_takes_19 : decode cX7_takes 19 = .ok (.iload_n 2, 1) := by decide +kernel
theorem dX7_takes_20 : decode cX7_takes 20 = .ok (.invokestatic 94, 3) := by decide +kernel
theorem dX7_takes_23 : decode cX7_takes 23 = .ok (.ifCond .ne 9, 3) := by decide +kernel
theorem dX7_takes_26 : decode cX7_takes 26 = .ok (.aload_n 0, 1) := by decide +kernel
theorem dX7_takes_27 : decode cX7_takes 27 = .ok (.iconst 3, 1) := by decide +kernel
theorem dX7_takes_28 : decode cX7_takes 28 = .ok (.invokevirtual 110, 3) := by decide +kernel
theorem dX7_takes_31 : decode cX7_takes 31 = .ok (.ireturn, 1) := by decide +kernel
theorem dX7_takes_32 : decode cX7_takes 32 = .ok (.aload_n 0, 1) := by decide +kernel
theorem dX7_takes_33 : decode cX7_takes 33 = .ok (.aload_n 0, 1) := by decide +kernel
theorem dX7_takes_34 : decode cX7_takes 34 = .ok (.getfield 88, 3) := by decide +kernel
theorem dX7_takes_37 : decode cX7_takes 37 = .ok (.putfield 117, 3) := by decide +kernel
theorem dX7_takes_40 : decode cX7_takes 40 = .ok (.aload_n 0, 1) := by decide +kernel
theorem dX7_takes_41 : decode cX7_takes 41 = .ok (.invokevirtual 114, 3) := by decide +kernel
theorem dX7_takes_44 : decode cX7_takes 44 = .ok (.iconst 1, 1) := by decide +kernel
theorem dX7_takes_45 : decode cX7_takes 45 = .ok (.ireturn, 1) := by decide +kernel
theorem dX7_lays_0 : decode cX7_lays 0 = .ok (.aload_n 0, 1) := by decide +kernel
theorem dX7_lays_1 : decode cX7_lays 1 = .ok (.iload_n 1, 1) := by decide +kernel
theorem dX7_lays_2 : decode cX7_lays 2 = .ok (.invokestatic 120, 3) := by decide +kernel
theorem dX7_lays_5 : decode cX7_lays 5 = .ok (.iload_n 1, 1) := by decide +kernel
theorem dX7_lays_6 : decode cX7_lays 6 = .ok (.invokestatic 123, 3) := by decide +kernel
theorem dX7_lays_9 : decode cX7_lays 9 = .ok (.invokevirtual 126, 3) := by decide +kernel
theorem dX7_lays_12 : decode cX7_lays 12 = .ok (.ifCond .ne 5, 3) := by decide +kernel
theorem dX7_lays_15 : decode cX7_lays 15 = .ok (.iconst 0, 1) := by decide +kernel
theorem dX7_lays_16 : decode cX7_lays 16 = .ok (.ireturn, 1) := by decide +kernel
theorem dX7_lays_17 : decode cX7_lays 17 = .ok (.aload_n 0, 1) := by decide +kernel
theorem dX7_lays_18 : decode cX7_lays 18 = .ok (.getfield 21, 3) := by decide +kernel
theorem dX7_lays_21 : decode cX7_lays 21 = .ok (.iload_n 1, 1) := by decide +kernel
theorem dX7_lays_22 : decode cX7_lays 22 = .ok (.aload_n 0, 1) := by decide +kernel
theorem dX7_lays_23 : decode cX7_lays 23 = .ok (.getfield 117, 3) := by decide +kernel
theorem dX7_lays_26 : decode cX7_lays 26 = .ok (.iastore, 1) := by decide +kernel
theorem dX7_lays_27 : decode cX7_lays 27 = .ok (.iconst 1, 1) := by decide +kernel
theorem dX7_lays_28 : decode cX7_lays 28 = .ok (.ireturn, 1) := by decide +kernel
theorem dX7_closes_0 : decode cX7_closes 0 = .ok (.aload_n 0, 1) := by decide +kernel
theorem dX7_closes_1 : decode cX7_closes 1 = .ok (.iconst 1, 1) := by decide +kernel
theorem dX7_closes_2 : decode cX7_closes 2 = .ok (.aload_n 0, 1) := by decide +kernel
theorem dX7_closes_3 : decode cX7_closes 3 = .ok (.getfield 91, 3) := by decide +kernel
theorem dX7_closes_6 : decode cX7_closes 6 = .ok (.iconst 3, 1) := by decide +kernel
theorem dX7_closes_7 : decode cX7_closes 7 = .ok (.if_icmp .ne 7, 3) := by decide +kernel
theorem dX7_closes_10 : decode cX7_closes 10 = .ok (.iconst 1, 1) := by decide +kernel
theorem dX7_closes_11 : decode cX7_closes 11 = .ok (.goto 4, 3) := by decide +kernel
theorem dX7_closes_14 : decode cX7_closes 14 = .ok (.iconst 0, 1) := by decide +kernel
theorem dX7_closes_15 : decode cX7_closes 15 = .ok (.invokevirtual 130, 3) := by decide +kernel
theorem dX7_closes_18 : decode cX7_closes 18 = .ok (.ireturn, 1) := by decide +kernel
theorem dX7_once_0 : decode cX7_once 0 = .ok (.aload_n 0, 1) := by decide +kernel
theorem dX7_once_1 : decode cX7_once 1 = .ok (.getfield 134, 3) := by decide +kernel
theorem dX7_once_4 : decode cX7_once 4 = .ok (.iload_n 1, 1) := by decide +kernel
theorem dX7_once_5 : decode cX7_once 5 = .ok (.ishr, 1) := by decide +kernel
theorem dX7_once_6 : decode cX7_once 6 = .ok (.iconst 1, 1) := by decide +kernel
theorem dX7_once_7 : decode cX7_once 7 = .ok (.iand, 1) := by decide +kernel
theorem dX7_once_8 : decode cX7_once 8 = .ok (.ifCond .ne 7, 3) := by decide +kernel
theorem dX7_once_11 : decode cX7_once 11 = .ok (.iconst 1, 1) := by decide +kernel
theorem dX7_once_12 : decode cX7_once 12 = .ok (.goto 4, 3) := by decide +kernel
theorem dX7_once_15 : decode cX7_once 15 = .ok (.iconst 0, 1) := by decide +kernel
theorem dX7_once_16 : decode cX7_once 16 = .ok (.istore_n 2, 1) := by decide +kernel
theorem dX7_once_17 : decode cX7_once 17 = .ok (.aload_n 0, 1) := by decide +kernel
theorem dX7_once_18 : decode cX7_once 18 = .ok (.dup, 1) := by decide +kernel
theorem dX7_once_19 : decode cX7_once 19 = .ok (.getfield 134, 3) := by decide +kernel
theorem dX7_once_22 : decode cX7_once 22 = .ok (.iconst 1, 1) := by decide +kernel
theorem dX7_once_23 : decode cX7_once 23 = .ok (.iload_n 1, 1) := by decide +kernel
theorem dX7_once_24 : decode cX7_once 24 = .ok (.ishl, 1) := by decide +kernel
theorem dX7_once_25 : decode cX7_once 25 = .ok (.ior, 1) := by decide +kernel
theorem dX7_once_26 : decode cX7_once 26 = .ok (.putfield 134, 3) := by decide +kernel
theorem dX7_once_29 : decode cX7_once 29 = .ok (.aload_n 0, 1) := by decide +kernel
theorem dX7_once_30 : decode cX7_once 30 = .ok (.iconst 2, 1) := by decide +kernel
theorem dX7_once_31 : decode cX7_once 31 = .ok (.iload_n 2, 1) := by decide +kernel
theorem dX7_once_32 : decode cX7_once 32 = .ok (.invokevirtual 130, 3) := by decide +kernel
theorem dX7_once_35 : decode cX7_once 35 = .ok (.ireturn, 1) := by decide +kernel
theorem dX7_faultLine_0 : decode cX7_faultLine 0 = .ok (.aload_n 0, 1) := by decide +kernel
theorem dX7_faultLine_1 : decode cX7_faultLine 1 = .ok (.iconst 4, 1) := by decide +kernel
theorem dX7_faultLine_2 : decode cX7_faultLine 2 = .ok (.aload_n 0, 1) := by decide +kernel
theorem dX7_faultLine_3 : decode cX7_faultLine 3 = .ok (.getfield 21, 3) := by decide +kernel
theorem dX7_faultLine_6 : decode cX7_faultLine 6 = .ok (.bipush 8, 2) := by decide +kernel
theorem dX7_faultLine_8 : decode cX7_faultLine 8 = .ok (.iaload, 1) := by decide +kernel
theorem dX7_faultLine_9 : decode cX7_faultLine 9 = .ok (.bipush 10, 2) := by decide +kernel
theorem dX7_faultLine_11 : decode cX7_faultLine 11 = .ok (.if_icmp .ge 7, 3) := by decide +kernel
theorem dX7_faultLine_14 : decode cX7_faultLine 14 = .ok (.iconst 1, 1) := by decide +kernel
theorem dX7_faultLine_15 : decode cX7_faultLine 15 = .ok (.goto 4, 3) := by decide +kernel
theorem dX7_faultLine_18 : decode cX7_faultLine 18 = .ok (.iconst 0, 1) := by decide +kernel
theorem dX7_faultLine_19 : decode cX7_faultLine 19 = .ok (.invokevirtual 130, 3) := by decide +kernel
theorem dX7_faultLine_22 : decode cX7_faultLine 22 = .ok (.ifCond .ne 5, 3) := by decide +kernel
theorem dX7_faultLine_25 : decode cX7_faultLine 25 = .ok (.iconst 0, 1) := by decide +kernel
theorem dX7_faultLine_26 : decode cX7_faultLine 26 = .ok (.ireturn, 1) := by decide +kernel
theorem dX7_faultLine_27 : decode cX7_faultLine 27 = .ok (.aload_n 0, 1) := by decide +kernel
theorem dX7_faultLine_28 : decode cX7_faultLine 28 = .ok (.getfield 91, 3) := by decide +kernel
theorem dX7_faultLine_31 : decode cX7_faultLine 31 = .ok (.iconst 2, 1) := by decide +kernel
theorem dX7_faultLine_32 : decode cX7_faultLine 32 = .ok (.if_icmp .ne 25, 3) := by decide +kernel
theorem dX7_faultLine_35 : decode cX7_faultLine 35 = .ok (.aload_n 0, 1) := by decide +kernel
theorem dX7_faultLine_36 : decode cX7_faultLine 36 = .ok (.getfield 21, 3) := by decide +kernel
theorem dX7_faultLine_39 : decode cX7_faultLine 39 = .ok (.iload_n 1, 1) := by decide +kernel
theorem dX7_faultLine_40 : decode cX7_faultLine 40 = .ok (.aload_n 0, 1) := by decide +kernel
theorem dX7_faultLine_41 : decode cX7_faultLine 41 = .ok (.getfield 88, 3) := by decide +kernel
theorem dX7_faultLine_44 : decode cX7_faultLine 44 = .ok (.invokestatic 137, 3) := by decide +kernel
theorem dX7_faultLine_47 : decode cX7_faultLine 47 = .ok (.iconst (-1), 1) := by decide +kernel
theorem dX7_faultLine_48 : decode cX7_faultLine 48 = .ok (.if_icmp .eq 9, 3) := by decide +kernel
theorem dX7_faultLine_51 : decode cX7_faultLine 51 = .ok (.aload_n 0, 1) := by decide +kernel
theorem dX7_faultLine_52 : decode cX7_faultLine 52 = .ok (.iconst 2, 1) := by decide +kernel
theorem dX7_faultLine_53 : decode cX7_faultLine 53 = .ok (.invokevirtual 110, 3) := by decide +kernel
theorem dX7_faultLine_56 : decode cX7_faultLine 56 = .ok (.ireturn, 1) := by decide +kernel
theorem dX7_faultLine_57 : decode cX7_faultLine 57 = .ok (.aload_n 0, 1) := by decide +kernel
theorem dX7_faultLine_58 : decode cX7_faultLine 58 = .ok (.iconst 0, 1) := by decide +kernel
theorem dX7_faultLine_59 : decode cX7_faultLine 59 = .ok (.bipush 119, 2) := by decide +kernel
theorem dX7_faultLine_61 : decode cX7_faultLine 61 = .ok (.invokevirtual 126, 3) := by decide +kernel
theorem dX7_faultLine_64 : decode cX7_faultLine 64 = .ok (.ifCond .ne 5, 3) := by decide +kernel
theorem dX7_faultLine_67 : decode cX7_faultLine 67 = .ok (.iconst 0, 1) := by decide +kernel
theorem dX7_faultLine_68 : decode cX7_faultLine 68 = .ok (.ireturn, 1) := by decide +kernel
theorem dX7_faultLine_69 : decode cX7_faultLine 69 = .ok (.aload_n 0, 1) := by decide +kernel
theorem dX7_faultLine_70 : decode cX7_faultLine 70 = .ok (.getfield 117, 3) := by decide +kernel
theorem dX7_faultLine_73 : decode cX7_faultLine 73 = .ok (.istore_n 2, 1) := by decide +kernel
theorem dX7_faultLine_74 : decode cX7_faultLine 74 = .ok (.iload_n 1, 1) := by decide +kernel
theorem dX7_faultLine_75 : decode cX7_faultLine 75 = .ok (.iconst 2, 1) := by decide +kernel
theorem dX7_faultLine_76 : decode cX7_faultLine 76 = .ok (.if_icmp .ne 15, 3) := by decide +kernel
theorem dX7_faultLine_79 : decode cX7_faultLine 79 = .ok (.aload_n 0, 1) := by decide +kernel
theorem dX7_faultLine_80 : decode cX7_faultLine 80 = .ok (.iconst 1, 1) := by decide +kernel
theorem dX7_faultLine_81 : decode cX7_faultLine 81 = .ok (.bipush 20, 2) := by decide +kernel
theorem dX7_faultLine_83 : decode cX7_faultLine 83 = .ok (.invokevirtual 126, 3) := by decide +kernel
theorem dX7_faultLine_86 : decode cX7_faultLine 86 = .ok (.ifCond .ne 5, 3) := by decide +kernel
theorem dX7_faultLine_89 : decode cX7_faultLine 89 = .ok (.iconst 0, 1) := by decide +kernel
theorem dX7_faultLine_90 : decode cX7_faultLine 90 = .ok (.ireturn, 1) := by decide +kernel
theorem dX7_faultLine_91 : decode cX7_faultLine 91 = .ok (.aload_n 0, 1) := by decide +kernel
theorem dX7_faultLine_92 : decode cX7_faultLine 92 = .ok (.getfield 21, 3) := by decide +kernel
theorem dX7_faultLine_95 : decode cX7_faultLine 95 = .ok (.iload_n 1, 1) := by decide +kernel
theorem dX7_faultLine_96 : decode cX7_faultLine 96 = .ok (.iload_n 2, 1) := by decide +kernel
theorem dX7_faultLine_97 : decode cX7_faultLine 97 = .ok (.iload_n 1, 1) := by decide +kernel
theorem dX7_faultLine_98 : decode cX7_faultLine 98 = .ok (.iconst 2, 1) := by decide +kernel
theorem dX7_faultLine_99 : decode cX7_faultLine 99 = .ok (.if_icmp .ne 10, 3) := by decide +kernel
theorem dX7_faultLine_102 : decode cX7_faultLine 102 = .ok (.aload_n 0, 1) := by decide +kernel
theorem dX7_faultLine_103 : decode cX7_faultLine 103 = .ok (.getfield 117, 3) := by decide +kernel
theorem dX7_faultLine_106 : decode cX7_faultLine 106 = .ok (.goto 4, 3) := by decide +kernel
theorem dX7_faultLine_109 : decode cX7_faultLine 109 = .ok (.iconst 0, 1) := by decide +kernel
theorem dX7_faultLine_110 : decode cX7_faultLine 110 = .ok (.invokestatic 141, 3) := by decide +kernel
theorem dX7_faultLine_113 : decode cX7_faultLine 113 = .ok (.istore_n 3, 1) := by decide +kernel
theorem dX7_faultLine_114 : decode cX7_faultLine 114 = .ok (.iconst 1, 1) := by decide +kernel
theorem dX7_faultLine_115 : decode cX7_faultLine 115 = .ok (.ireturn, 1) := by decide +kernel
theorem dX7_statement_0 : decode cX7_statement 0 = .ok (.aload_n 0, 1) := by decide +kernel
theorem dX7_statement_1 : decode cX7_statement 1 = .ok (.ldc 145, 2) := by decide +kernel
theorem dX7_statement_3 : decode cX7_statement 3 = .ok (.invokevirtual 147, 3) := by decide +kernel
theorem dX7_statement_6 : decode cX7_statement 6 = .ok (.ifCond .eq 25, 3) := by decide +kernel
theorem dX7_statement_9 : decode cX7_statement 9 = .ok (.aload_n 0, 1) := by decide +kernel
theorem dX7_statement_10 : decode cX7_statement 10 = .ok (.iconst 0, 1) := by decide +kernel
theorem dX7_statement_11 : decode cX7_statement 11 = .ok (.invokevirtual 151, 3) := by decide +kernel
theorem dX7_statement_14 : decode cX7_statement 14 = .ok (.ifCond .eq 15, 3) := by decide +kernel
theorem dX7_statement_17 : decode cX7_statement 17 = .ok (.aload_n 0, 1) := by decide +kernel
theorem dX7_statement_18 : decode cX7_statement 18 = .ok (.iconst 3, 1) := by decide +kernel
theorem dX7_statement_19 : decode cX7_statement 19 = .ok (.invokevirtual 154, 3) := by decide +kernel
theorem dX7_statement_22 : decode cX7_statement 22 = .ok (.ifCond .eq 7, 3) := by decide +kernel
theorem dX7_statement_25 : decode cX7_statement 25 = .ok (.iconst 1, 1) := by decide +kernel
theorem dX7_statement_26 : decode cX7_statement 26 = .ok (.goto 4, 3) := by decide +kernel
theorem dX7_statement_29 : decode cX7_statement 29 = .ok (.iconst 0, 1) := by decide +kernel
theorem dX7_statement_30 : decode cX7_statement 30 = .ok (.ireturn, 1) := by decide +kernel
theorem dX7_statement_31 : decode cX7_statement 31 = .ok (.aload_n 0, 1) := by decide +kernel
theorem dX7_statement_32 : decode cX7_statement 32 = .ok (.ldc 157, 2) := by decide +kernel
theorem dX7_statement_34 : decode cX7_statement 34 = .ok (.invokevirtual 147, 3) := by decide +kernel
theorem dX7_statement_37 : decode cX7_statement 37 = .ok (.ifCond .eq 25, 3) := by decide +kernel
theorem dX7_statement_40 : decode cX7_statement 40 = .ok (.aload_n 0, 1) := by decide +kernel
theorem dX7_statement_41 : decode cX7_statement 41 = .ok (.iconst 1, 1) := by decide +kernel
theorem dX7_statement_42 : decode cX7_statement 42 = .ok (.invokevirtual 151, 3) := by decide +kernel
theorem dX7_statement_45 : decode cX7_statement 45 = .ok (.ifCond .eq 15, 3) := by decide +kernel
theorem dX7_statement_48 : decode cX7_statement 48 = .ok (.aload_n 0, 1) := by decide +kernel
theorem dX7_statement_49 : decode cX7_statement 49 = .ok (.iconst 4, 1) := by decide +kernel
theorem dX7_statement_50 : decode cX7_statement 50 = .ok (.invokevirtual 154, 3) := by decide +kernel
theorem dX7_statement_53 : decode cX7_statement 53 = .ok (.ifCond .eq 7, 3) := by decide +kernel
theorem dX7_statement_56 : decode cX7_statement 56 = .ok (.iconst 1, 1) := by decide +kernel
theorem dX7_statement_57 : decode cX7_statement 57 = .ok (.goto 4, 3) := by decide +kernel
theorem dX7_statement_60 : decode cX7_statement 60 = .ok (.iconst 0, 1) := by decide +kernel
theorem dX7_statement_61 : decode cX7_statement 61 = .ok (.ireturn, 1) := by decide +kernel
theorem dX7_statement_62 : decode cX7_statement 62 = .ok (.aload_n 0, 1) := by decide +kernel
theorem dX7_statement_63 : decode cX7_statement 63 = .ok (.ldc 159, 2) := by decide +kernel
theorem dX7_statement_65 : decode cX7_statement 65 = .ok (.invokevirtual 147, 3) := by decide +kernel
theorem dX7_statement_68 : decode cX7_statement 68 = .ok (.ifCond .eq 34, 3) := by decide +kernel
theorem dX7_statement_71 : decode cX7_statement 71 = .ok (.aload_n 0, 1) := by decide +kernel
theorem dX7_statement_72 : decode cX7_statement 72 = .ok (.iconst 2, 1) := by decide +kernel
theorem dX7_statement_73 : decode cX7_statement 73 = .ok (.invokevirtual 151, 3) := by decide +kernel
theorem dX7_statement_76 : decode cX7_statement 76 = .ok (.ifCond .eq 24, 3) := by decide +kernel
theorem dX7_statement_79 : decode cX7_statement 79 = .ok (.aload_n 0, 1) := by decide +kernel
theorem dX7_statement_80 : decode cX7_statement 80 = .ok (.iconst 5, 1) := by decide +kernel
theorem dX7_statement_81 : decode cX7_statement 81 = .ok (.invokevirtual 154, 3) := by decide +kernel
theorem dX7_statement_84 : decode cX7_statement 84 = .ok (.ifCond .eq 16, 3) := by decide +kernel
theorem dX7_statement_87 : decode cX7_statement 87 = .ok (.aload_n 0, 1) := by decide +kernel
theorem dX7_statement_88 : decode cX7_statement 88 = .ok (.bipush 6, 2) := by decide +kernel
theorem dX7_statement_90 : decode cX7_statement 90 = .ok (.invokevirtual 154, 3) := by decide +kernel
theorem dX7_statement_93 : decode cX7_statement 93 = .ok (.ifCond .eq 7, 3) := by decide +kernel
theorem dX7_statement_96 : decode cX7_statement 96 = .ok (.iconst 1, 1) := by decide +kernel
theorem dX7_statement_97 : decode cX7_statement 97 = .ok (.goto 4, 3) := by decide +kernel
theorem dX7_statement_100 : decode cX7_statement 100 = .ok (.iconst 0, 1) := by decide +kernel
theorem dX7_statement_101 : decode cX7_statement 101 = .ok (.ireturn, 1) := by decide +kernel
theorem dX7_statement_102 : decode cX7_statement 102 = .ok (.aload_n 0, 1) := by decide +kernel
theorem dX7_statement_103 : decode cX7_statement 103 = .ok (.ldc 161, 2) := by decide +kernel
theorem dX7_statement_105 : decode cX7_statement 105 = .ok (.invokevirtual 147, 3) := by decide +kernel
theorem dX7_statement_108 : decode cX7_statement 108 = .ok (.ifCond .eq 26, 3) := by decide +kernel
theorem dX7_statement_111 : decode cX7_statement 111 = .ok (.aload_n 0, 1) := by decide +kernel
theorem dX7_statement_112 : decode cX7_statement 112 = .ok (.iconst 3, 1) := by decide +kernel
theorem dX7_statement_113 : decode cX7_statement 113 = .ok (.invokevirtual 151, 3) := by decide +kernel
theorem dX7_statement_116 : decode cX7_statement 116 = .ok (.ifCond .eq 16, 3) := by decide +kernel
theorem dX7_statement_119 : decode cX7_statement 119 = .ok (.aload_n 0, 1) := by decide +kernel
theorem dX7_statement_120 : decode cX7_statement 120 = .ok (.bipush 7, 2) := by decide +kernel
theorem dX7_statement_122 : decode cX7_statement 122 = .ok (.invokevirtual 154, 3) := by decide +kernel
theorem dX7_statement_125 : decode cX7_statement 125 = .ok (.ifCond .eq 7, 3) := by decide +kernel
theorem dX7_statement_128 : decode cX7_statement 128 = .ok (.iconst 1, 1) := by decide +kernel
theorem dX7_statement_129 : decode cX7_statement 129 = .ok (.goto 4, 3) := by decide +kernel
theorem dX7_statement_132 : decode cX7_statement 132 = .ok (.iconst 0, 1) := by decide +kernel
theorem dX7_statement_133 : decode cX7_statement 133 = .ok (.ireturn, 1) := by decide +kernel
theorem dX7_statement_134 : decode cX7_statement 134 = .ok (.aload_n 0, 1) := by decide +kernel
theorem dX7_statement_135 : decode cX7_statement 135 = .ok (.ldc 163, 2) := by decide +kernel
theorem dX7_statement_137 : decode cX7_statement 137 = .ok (.invokevirtual 147, 3) := by decide +kernel
theorem dX7_statement_140 : decode cX7_statement 140 = .ok (.ifCond .eq 9, 3) := by decide +kernel
theorem dX7_statement_143 : decode cX7_statement 143 = .ok (.aload_n 0, 1) := by decide +kernel
theorem dX7_statement_144 : decode cX7_statement 144 = .ok (.iconst 0, 1) := by decide +kernel
theorem dX7_statement_145 : decode cX7_statement 145 = .ok (.invokevirtual 165, 3) := by decide +kernel
theorem dX7_statement_148 : decode cX7_statement 148 = .ok (.ireturn, 1) := by decide +kernel
theorem dX7_statement_149 : decode cX7_statement 149 = .ok (.aload_n 0, 1) := by decide +kernel
theorem dX7_statement_150 : decode cX7_statement 150 = .ok (.ldc 168, 2) := by decide +kernel
theorem dX7_statement_152 : decode cX7_statement 152 = .ok (.invokevirtual 147, 3) := by decide +kernel
theorem dX7_statement_155 : decode cX7_statement 155 = .ok (.ifCond .eq 11, 3) := by decide +kernel
theorem dX7_statement_158 : decode cX7_statement 158 = .ok (.aload_n 0, 1) := by decide +kernel
theorem dX7_statement_159 : decode cX7_statement 159 = .ok (.iconst 1, 1) := by decide +kernel
theorem dX7_statement_160 : decode cX7_statement 160 = .ok (.invokevirtual 165, 3) := by decide +kernel
theorem dX7_statement_163 : decode cX7_statement 163 = .ok (.goto 25, 3) := by decide +kernel
theorem dX7_statement_166 : decode cX7_statement 166 = .ok (.aload_n 0, 1) := by decide +kernel
theorem dX7_statement_167 : decode cX7_statement 167 = .ok (.ldc 170, 2) := by decide +kernel
theorem dX7_statement_169 : decode cX7_statement 169 = .ok (.invokevirtual 147, 3) := by decide +kernel
theorem dX7_statement_172 : decode cX7_statement 172 = .ok (.ifCond .eq 11, 3) := by decide +kernel
theorem dX7_statement_175 : decode cX7_statement 175 = .ok (.aload_n 0, 1) := by decide +kernel
theorem dX7_statement_176 : decode cX7_statement 176 = .ok (.iconst 2, 1) := by decide +kernel
theorem dX7_statement_177 : decode cX7_statement 177 = .ok (.invokevirtual 165, 3) := by decide +kernel
theorem dX7_statement_180 : decode cX7_statement 180 = .ok (.goto 8, 3) := by decide +kernel
theorem dX7_statement_183 : decode cX7_statement 183 = .ok (.aload_n 0, 1) := by decide +kernel
theorem dX7_statement_184 : decode cX7_statement 184 = .ok (.iconst 1, 1) := by decide +kernel
theorem dX7_statement_185 : decode cX7_statement 185 = .ok (.invokevirtual 110, 3) := by decide +kernel
theorem dX7_statement_188 : decode cX7_statement 188 = .ok (.ireturn, 1) := by decide +kernel
theorem dX7_head_0 : decode cX7_head 0 = .ok (.aload_n 0, 1) := by decide +kernel
theorem dX7_head_1 : decode cX7_head 1 = .ok (.iconst 1, 1) := by decide +kernel
theorem dX7_head_2 : decode cX7_head 2 = .ok (.aload_n 0, 1) := by decide +kernel
theorem dX7_head_3 : decode cX7_head 3 = .ok (.ldc 172, 2) := by decide +kernel
theorem dX7_head_5 : decode cX7_head 5 = .ok (.invokevirtual 147, 3) := by decide +kernel
theorem dX7_head_8 : decode cX7_head 8 = .ok (.invokevirtual 130, 3) := by decide +kernel
theorem dX7_head_11 : decode cX7_head 11 = .ok (.ifCond .ne 5, 3) := by decide +kernel
theorem dX7_head_14 : decode cX7_head 14 = .ok (.iconst 0, 1) := by decide +kernel
theorem dX7_head_15 : decode cX7_head 15 = .ok (.ireturn, 1) := by decide +kernel
theorem dX7_head_16 : decode cX7_head 16 = .ok (.aload_n 0, 1) := by decide +kernel
theorem dX7_head_17 : decode cX7_head 17 = .ok (.ldc 174, 2) := by decide +kernel
theorem dX7_head_19 : decode cX7_head 19 = .ok (.invokevirtual 147, 3) := by decide +kernel
theorem dX7_head_22 : decode cX7_head 22 = .ok (.ifCond .eq 7, 3) := by decide +kernel
theorem dX7_head_25 : decode cX7_head 25 = .ok (.iconst 0, 1) := by decide +kernel
theorem dX7_head_26 : decode cX7_head 26 = .ok (.goto 30, 3) := by decide +kernel
theorem dX7_head_29 : decode cX7_head 29 = .ok (.aload_n 0, 1) := by decide +kernel
theorem dX7_head_30 : decode cX7_head 30 = .ok (.ldc 176, 2) := by decide +kernel
theorem dX7_head_32 : decode cX7_head 32 = .ok (.invokevirtual 147, 3) := by decide +kernel
theorem dX7_head_35 : decode cX7_head 35 = .ok (.ifCond .eq 7, 3) := by decide +kernel
theorem dX7_head_38 : decode cX7_head 38 = .ok (.iconst 1, 1) := by decide +kernel
theorem dX7_head_39 : decode cX7_head 39 = .ok (.goto 17, 3) := by decide +kernel
theorem dX7_head_42 : decode cX7_head 42 = .ok (.aload_n 0, 1) := by decide +kernel
theorem dX7_head_43 : decode cX7_head 43 = .ok (.ldc 178, 2) := by decide +kernel
theorem dX7_head_45 : decode cX7_head 45 = .ok (.invokevirtual 147, 3) := by decide +kernel
theorem dX7_head_48 : decode cX7_head 48 = .ok (.ifCond .eq 7, 3) := by decide +kernel
theorem dX7_head_51 : decode cX7_head 51 = .ok (.iconst 2, 1) := by decide +kernel
theorem dX7_head_52 : decode cX7_head 52 = .ok (.goto 4, 3) := by decide +kernel
theorem dX7_head_55 : decode cX7_head 55 = .ok (.iconst (-1), 1) := by decide +kernel
theorem dX7_head_56 : decode cX7_head 56 = .ok (.istore_n 1, 1) := by decide +kernel
theorem dX7_head_57 : decode cX7_head 57 = .ok (.aload_n 0, 1) := by decide +kernel
theorem dX7_head_58 : decode cX7_head 58 = .ok (.getfield 21, 3) := by decide +kernel
theorem dX7_head_61 : decode cX7_head 61 = .ok (.iconst 0, 1) := by decide +kernel
theorem dX7_head_62 : decode cX7_head 62 = .ok (.iload_n 1, 1) := by decide +kernel
theorem dX7_head_63 : decode cX7_head 63 = .ok (.iastore, 1) := by decide +kernel
theorem dX7_head_64 : decode cX7_head 64 = .ok (.aload_n 0, 1) := by decide +kernel
theorem dX7_head_65 : decode cX7_head 65 = .ok (.iconst 1, 1) := by decide +kernel
theorem dX7_head_66 : decode cX7_head 66 = .ok (.iload_n 1, 1) := by decide +kernel
theorem dX7_head_67 : decode cX7_head 67 = .ok (.iconst (-1), 1) := by decide +kernel
theorem dX7_head_68 : decode cX7_head 68 = .ok (.if_icmp .eq 7, 3) := by decide +kernel
theorem dX7_head_71 : decode cX7_head 71 = .ok (.iconst 1, 1) := by decide +kernel
theorem dX7_head_72 : decode cX7_head 72 = .ok (.goto 4, 3) := by decide +kernel
theorem dX7_head_75 : decode cX7_head 75 = .ok (.iconst 0, 1) := by decide +kernel
theorem dX7_head_76 : decode cX7_head 76 = .ok (.invokevirtual 130, 3) := by decide +kernel
theorem dX7_head_79 : decode cX7_head 79 = .ok (.ifCond .eq 30, 3) := by decide +kernel
theorem dX7_head_82 : decode cX7_head 82 = .ok (.aload_n 0, 1) := by decide +kernel
theorem dX7_head_83 : decode cX7_head 83 = .ok (.iconst 1, 1) := by decide +kernel
theorem dX7_head_84 : decode cX7_head 84 = .ok (.invokevirtual 154, 3) := by decide +kernel
theorem dX7_head_87 : decode cX7_head 87 = .ok (.ifCond .eq 22, 3) := by decide +kernel
theorem dX7_head_90 : decode cX7_head 90 = .ok (.aload_n 0, 1) := by decide +kernel
theorem dX7_head_91 : decode cX7_head 91 = .ok (.iconst 2, 1) := by decide +kernel
theorem dX7_head_92 : decode cX7_head 92 = .ok (.invokevirtual 154, 3) := by decide +kernel
theorem dX7_head_95 : decode cX7_head 95 = .ok (.ifCond .eq 14, 3) := by decide +kernel
theorem dX7_head_98 : decode cX7_head 98 = .ok (.aload_n 0, 1) := by decide +kernel
theorem dX7_head_99 : decode cX7_head 99 = .ok (.invokevirtual 180, 3) := by decide +kernel
theorem dX7_head_102 : decode cX7_head 102 = .ok (.ifCond .eq 7, 3) := by decide +kernel
theorem dX7_head_105 : decode cX7_head 105 = .ok (.iconst 1, 1) := by decide +kernel
theorem dX7_head_106 : decode cX7_head 106 = .ok (.goto 4, 3) := by decide +kernel
theorem dX7_head_109 : decode cX7_head 109 = .ok (.iconst 0, 1) := by decide +kernel
theorem dX7_head_110 : decode cX7_head 110 = .ok (.ireturn, 1) := by decide +kernel
theorem dX7_parse_0 : decode cX7_parse 0 = .ok (.aload_n 0, 1) := by decide +kernel
theorem dX7_parse_1 : decode cX7_parse 1 = .ok (.iconst 0, 1) := by decide +kernel
theorem dX7_parse_2 : decode cX7_parse 2 = .ok (.putfield 65, 3) := by decide +kernel
theorem dX7_parse_5 : decode cX7_parse 5 = .ok (.aload_n 0, 1) := by decide +kernel
theorem dX7_parse_6 : decode cX7_parse 6 = .ok (.iload_n 1, 1) := by decide +kernel
theorem dX7_parse_7 : decode cX7_parse 7 = .ok (.iconst 0, 1) := by decide +kernel
theorem dX7_parse_8 : decode cX7_parse 8 = .ok (.aload_n 0, 1) := by decide +kernel
theorem dX7_parse_9 : decode cX7_parse 9 = .ok (.getfield 68, 3) := by decide +kernel
theorem dX7_parse_12 : decode cX7_parse 12 = .ok (.invokestatic 94, 3) := by decide +kernel
theorem dX7_parse_15 : decode cX7_parse 15 = .ok (.ifCond .ne 7, 3) := by decide +kernel
theorem dX7_parse_18 : decode cX7_parse 18 = .ok (.iconst 1, 1) := by decide +kernel
theorem dX7_parse_19 : decode cX7_parse 19 = .ok (.goto 4, 3) := by decide +kernel
theorem dX7_parse_22 : decode cX7_parse 22 = .ok (.iconst 0, 1) := by decide +kernel
theorem dX7_parse_23 : decode cX7_parse 23 = .ok (.iconst 1, 1) := by decide +kernel
theorem dX7_parse_24 : decode cX7_parse 24 = .ok (.invokevirtual 184, 3) := by decide +kernel
theorem dX7_parse_27 : decode cX7_parse 27 = .ok (.ifCond .eq 5, 3) := by decide +kernel
theorem dX7_parse_30 : decode cX7_parse 30 = .ok (.iconst 0, 1) := by decide +kernel
theorem dX7_parse_31 : decode cX7_parse 31 = .ok (.ireturn, 1) := by decide +kernel
theorem dX7_parse_32 : decode cX7_parse 32 = .ok (.aload_n 0, 1) := by decide +kernel
theorem dX7_parse_33 : decode cX7_parse 33 = .ok (.iload_n 1, 1) := by decide +kernel
theorem dX7_parse_34 : decode cX7_parse 34 = .ok (.putfield 75, 3) := by decide +kernel
theorem dX7_parse_37 : decode cX7_parse 37 = .ok (.aload_n 0, 1) := by decide +kernel
theorem dX7_parse_38 : decode cX7_parse 38 = .ok (.iconst 0, 1) := by decide +kernel
theorem dX7_parse_39 : decode cX7_parse 39 = .ok (.putfield 68, 3) := by decide +kernel
theorem dX7_parse_42 : decode cX7_parse 42 = .ok (.aload_n 0, 1) := by decide +kernel
theorem dX7_parse_43 : decode cX7_parse 43 = .ok (.iconst 0, 1) := by decide +kernel
theorem dX7_parse_44 : decode cX7_parse 44 = .ok (.putfield 78, 3) := by decide +kernel
theorem dX7_parse_47 : decode cX7_parse 47 = .ok (.aload_n 0, 1) := by decide +kernel
theorem dX7_parse_48 : decode cX7_parse 48 = .ok (.iconst 0, 1) := by decide +kernel
theorem dX7_parse_49 : decode cX7_parse 49 = .ok (.putfield 107, 3) := by decide +kernel
theorem dX7_parse_52 : decode cX7_parse 52 = .ok (.aload_n 0, 1) := by decide +kernel
theorem dX7_parse_53 : decode cX7_parse 53 = .ok (.iconst (-1), 1) := by decide +kernel
theorem dX7_parse_54 : decode cX7_parse 54 = .ok (.putfield 17, 3) := by decide +kernel
theorem dX7_parse_57 : decode cX7_parse 57 = .ok (.aload_n 0, 1) := by decide +kernel
theorem dX7_parse_58 : decode cX7_parse 58 = .ok (.iconst 0, 1) := by decide +kernel
theorem dX7_parse_59 : decode cX7_parse 59 = .ok (.putfield 134, 3) := by decide +kernel
theorem dX7_parse_62 : decode cX7_parse 62 = .ok (.aload_n 0, 1) := by decide +kernel
theorem dX7_parse_63 : decode cX7_parse 63 = .ok (.getfield 21, 3) := by decide +kernel
theorem dX7_parse_66 : decode cX7_parse 66 = .ok (.iconst 0, 1) := by decide +kernel
theorem dX7_parse_67 : decode cX7_parse 67 = .ok (.iconst 1, 1) := by decide +kernel
theorem dX7_parse_68 : decode cX7_parse 68 = .ok (.bipush 10, 2) := by decide +kernel
theorem dX7_parse_70 : decode cX7_parse 70 = .ok (.invokestatic 61, 3) := by decide +kernel
theorem dX7_parse_73 : decode cX7_parse 73 = .ok (.aload_n 0, 1) := by decide +kernel
theorem dX7_parse_74 : decode cX7_parse 74 = .ok (.invokevirtual 114, 3) := by decide +kernel
theorem dX7_parse_77 : decode cX7_parse 77 = .ok (.aload_n 0, 1) := by decide +kernel
theorem dX7_parse_78 : decode cX7_parse 78 = .ok (.invokevirtual 188, 3) := by decide +kernel
theorem dX7_parse_81 : decode cX7_parse 81 = .ok (.istore_n 2, 1) := by decide +kernel
theorem dX7_parse_82 : decode cX7_parse 82 = .ok (.iload_n 2, 1) := by decide +kernel
theorem dX7_parse_83 : decode cX7_parse 83 = .ok (.ifCond .eq 33, 3) := by decide +kernel
theorem dX7_parse_86 : decode cX7_parse 86 = .ok (.aload_n 0, 1) := by decide +kernel
theorem dX7_parse_87 : decode cX7_parse 87 = .ok (.getfield 91, 3) := by decide +kernel
theorem dX7_parse_90 : decode cX7_parse 90 = .ok (.ifCond .eq 26, 3) := by decide +kernel
theorem dX7_parse_93 : decode cX7_parse 93 = .ok (.aload_n 0, 1) := by decide +kernel
theorem dX7_parse_94 : decode cX7_parse 94 = .ok (.invokevirtual 191, 3) := by decide +kernel
theorem dX7_parse_97 : decode cX7_parse 97 = .ok (.ifCond .eq 14, 3) := by decide +kernel
theorem dX7_parse_100 : decode cX7_parse 100 = .ok (.aload_n 0, 1) := by decide +kernel
theorem dX7_parse_101 : decode cX7_parse 101 = .ok (.invokevirtual 180, 3) := by decide +kernel
theorem dX7_parse_104 : decode cX7_parse 104 = .ok (.ifCond .eq 7, 3) := by decide +kernel
theorem dX7_parse_107 : decode cX7_parse 107 = .ok (.iconst 1, 1) := by decide +kernel
theorem dX7_parse_108 : decode cX7_parse 108 = .ok (.goto 4, 3) := by decide +kernel
theorem dX7_parse_111 : decode cX7_parse 111 = .ok (.iconst 0, 1) := by decide +kernel
theorem dX7_parse_112 : decode cX7_parse 112 = .ok (.istore_n 2, 1) := by decide +kernel
theorem dX7_parse_113 : decode cX7_parse 113 = .ok (.goto (-31), 3) := by decide +kernel
theorem dX7_parse_116 : decode cX7_parse 116 = .ok (.iload_n 2, 1) := by decide +kernel
theorem dX7_parse_117 : decode cX7_parse 117 = .ok (.ifCond .ne 8, 3) := by decide +kernel
theorem dX7_parse_120 : decode cX7_parse 120 = .ok (.aload_n 0, 1) := by decide +kernel
theorem dX7_parse_121 : decode cX7_parse 121 = .ok (.getfield 107, 3) := by decide +kernel
theorem dX7_parse_124 : decode cX7_parse 124 = .ok (.ireturn, 1) := by decide +kernel
theorem dX7_parse_125 : decode cX7_parse 125 = .ok (.aload_n 0, 1) := by decide +kernel
theorem dX7_parse_126 : decode cX7_parse 126 = .ok (.getfield 21, 3) := by decide +kernel
theorem dX7_parse_129 : decode cX7_parse 129 = .ok (.iconst 0, 1) := by decide +kernel
theorem dX7_parse_130 : decode cX7_parse 130 = .ok (.aload_n 0, 1) := by decide +kernel
theorem dX7_parse_131 : decode cX7_parse 131 = .ok (.getfield 7, 3) := by decide +kernel
theorem dX7_parse_134 : decode cX7_parse 134 = .ok (.iconst 0, 1) := by decide +kernel
theorem dX7_parse_135 : decode cX7_parse 135 = .ok (.invokestatic 194, 3) := by decide +kernel
theorem dX7_parse_138 : decode cX7_parse 138 = .ok (.aload_n 0, 1) := by decide +kernel
theorem dX7_parse_139 : decode cX7_parse 139 = .ok (.iconst 0, 1) := by decide +kernel
theorem dX7_parse_140 : decode cX7_parse 140 = .ok (.putfield 198, 3) := by decide +kernel
theorem dX7_parse_143 : decode cX7_parse 143 = .ok (.aload_n 0, 1) := by decide +kernel
theorem dX7_parse_144 : decode cX7_parse 144 = .ok (.getfield 58, 3) := by decide +kernel
theorem dX7_parse_147 : decode cX7_parse 147 = .ok (.iconst 0, 1) := by decide +kernel
theorem dX7_parse_148 : decode cX7_parse 148 = .ok (.iconst 0, 1) := by decide +kernel
theorem dX7_parse_149 : decode cX7_parse 149 = .ok (.bastore, 1) := by decide +kernel
theorem dX7_parse_150 : decode cX7_parse 150 = .ok (.aload_n 0, 1) := by decide +kernel
theorem dX7_parse_151 : decode cX7_parse 151 = .ok (.getfield 58, 3) := by decide +kernel
theorem dX7_parse_154 : decode cX7_parse 154 = .ok (.iconst 1, 1) := by decide +kernel
theorem dX7_parse_155 : decode cX7_parse 155 = .ok (.iconst 0, 1) := by decide +kernel
theorem dX7_parse_156 : decode cX7_parse 156 = .ok (.bastore, 1) := by decide +kernel
theorem dX7_parse_157 : decode cX7_parse 157 = .ok (.iconst 0, 1) := by decide +kernel
theorem dX7_parse_158 : decode cX7_parse 158 = .ok (.ireturn, 1) := by decide +kernel
theorem dX7_errorPosition_0 : decode cX7_errorPosition 0 = .ok (.aload_n 0, 1) := by decide +kernel
theorem dX7_errorPosition_1 : decode cX7_errorPosition 1 = .ok (.iconst 0, 1) := by decide +kernel
theorem dX7_errorPosition_2 : decode cX7_errorPosition 2 = .ok (.putfield 65, 3) := by decide +kernel
theorem dX7_errorPosition_5 : decode cX7_errorPosition 5 = .ok (.aload_n 0, 1) := by decide +kernel
theorem dX7_errorPosition_6 : decode cX7_errorPosition 6 = .ok (.getfield 17, 3) := by decide +kernel
theorem dX7_errorPosition_9 : decode cX7_errorPosition 9 = .ok (.ireturn, 1) := by decide +kernel
theorem dX7_ofFault_0 : decode cX7_ofFault 0 = .ok (.aload_n 0, 1) := by decide +kernel
theorem dX7_ofFault_1 : decode cX7_ofFault 1 = .ok (.bipush 9, 2) := by decide +kernel
theorem dX7_ofFault_3 : decode cX7_ofFault 3 = .ok (.iconst 3, 1) := by decide +kernel
theorem dX7_ofFault_4 : decode cX7_ofFault 4 = .ok (.iload_n 1, 1) := by decide +kernel
theorem dX7_ofFault_5 : decode cX7_ofFault 5 = .ok (.imul, 1) := by decide +kernel
theorem dX7_ofFault_6 : decode cX7_ofFault 6 = .ok (.iadd, 1) := by decide +kernel
theorem dX7_ofFault_7 : decode cX7_ofFault 7 = .ok (.iload_n 2, 1) := by decide +kernel
theorem dX7_ofFault_8 : decode cX7_ofFault 8 = .ok (.iadd, 1) := by decide +kernel
theorem dX7_ofFault_9 : decode cX7_ofFault 9 = .ok (.iaload, 1) := by decide +kernel
theorem dX7_ofFault_10 : decode cX7_ofFault 10 = .ok (.ireturn, 1) := by decide +kernel
theorem dX7_placeOf_0 : decode cX7_placeOf 0 = .ok (.iconst 0, 1) := by decide +kernel
theorem dX7_placeOf_1 : decode cX7_placeOf 1 = .ok (.istore_n 3, 1) := by decide +kernel
theorem dX7_placeOf_2 : decode cX7_placeOf 2 = .ok (.iload_n 3, 1) := by decide +kernel
theorem dX7_placeOf_3 : decode cX7_placeOf 3 = .ok (.aload_n 0, 1) := by decide +kernel
theorem dX7_placeOf_4 : decode cX7_placeOf 4 = .ok (.bipush 8, 2) := by decide +kernel
theorem dX7_placeOf_6 : decode cX7_placeOf 6 = .ok (.iaload, 1) := by decide +kernel
theorem dX7_placeOf_7 : decode cX7_placeOf 7 = .ok (.if_icmp .ge 31, 3) := by decide +kernel
theorem dX7_placeOf_10 : decode cX7_placeOf 10 = .ok (.aload_n 0, 1) := by decide +kernel
theorem dX7_placeOf_11 : decode cX7_placeOf 11 = .ok (.iload_n 3, 1) := by decide +kernel
theorem dX7_placeOf_12 : decode cX7_placeOf 12 = .ok (.iconst 0, 1) := by decide +kernel
theorem dX7_placeOf_13 : decode cX7_placeOf 13 = .ok (.invokestatic 201, 3) := by decide +kernel
theorem dX7_placeOf_16 : decode cX7_placeOf 16 = .ok (.iload_n 1, 1) := by decide +kernel
theorem dX7_placeOf_17 : decode cX7_placeOf 17 = .ok (.if_icmp .ne 15, 3) := by decide +kernel
theorem dX7_placeOf_20 : decode cX7_placeOf 20 = .ok (.aload_n 0, 1) := by decide +kernel
theorem dX7_placeOf_21 : decode cX7_placeOf 21 = .ok (.iload_n 3, 1) := by decide +kernel
theorem dX7_placeOf_22 : decode cX7_placeOf 22 = .ok (.iconst 1, 1) := by decide +kernel
theorem dX7_placeOf_23 : decode cX7_placeOf 23 = .ok (.invokestatic 201, 3) := by decide +kernel
theorem dX7_placeOf_26 : decode cX7_placeOf 26 = .ok (.iload_n 2, 1) := by decide +kernel
theorem dX7_placeOf_27 : decode cX7_placeOf 27 = .ok (.if_icmp .ne 5, 3) := by decide +kernel
theorem dX7_placeOf_30 : decode cX7_placeOf 30 = .ok (.iload_n 3, 1) := by decide +kernel
theorem dX7_placeOf_31 : decode cX7_placeOf 31 = .ok (.ireturn, 1) := by decide +kernel
theorem dX7_placeOf_32 : decode cX7_placeOf 32 = .ok (.iinc 3 1, 3) := by decide +kernel
theorem dX7_placeOf_35 : decode cX7_placeOf 35 = .ok (.goto (-33), 3) := by decide +kernel
theorem dX7_placeOf_38 : decode cX7_placeOf 38 = .ok (.iconst (-1), 1) := by decide +kernel
theorem dX7_placeOf_39 : decode cX7_placeOf 39 = .ok (.ireturn, 1) := by decide +kernel
theorem dX7_comes_0 : decode cX7_comes 0 = .ok (.aload_n 0, 1) := by decide +kernel
theorem dX7_comes_1 : decode cX7_comes 1 = .ok (.bipush 8, 2) := by decide +kernel
theorem dX7_comes_3 : decode cX7_comes 3 = .ok (.iaload, 1) := by decide +kernel
theorem dX7_comes_4 : decode cX7_comes 4 = .ok (.istore 4, 2) := by decide +kernel
theorem dX7_comes_6 : decode cX7_comes 6 = .ok (.iload 4, 2) := by decide +kernel
theorem dX7_comes_8 : decode cX7_comes 8 = .ok (.ifCond .le 75, 3) := by decide +kernel
theorem dX7_comes_11 : decode cX7_comes 11 = .ok (.iconst 3, 1) := by decide +kernel
theorem dX7_comes_12 : decode cX7_comes 12 = .ok (.aload_n 0, 1) := by decide +kernel
theorem dX7_comes_13 : decode cX7_comes 13 = .ok (.iload 4, 2) := by decide +kernel
theorem dX7_comes_15 : decode cX7_comes 15 = .ok (.iconst 1, 1) := by decide +kernel
theorem dX7_comes_16 : decode cX7_comes 16 = .ok (.isub, 1) := by decide +kernel
theorem dX7_comes_17 : decode cX7_comes 17 = .ok (.iconst 1, 1) := by decide +kernel
theorem dX7_comes_18 : decode cX7_comes 18 = .ok (.invokestatic 201, 3) := by decide +kernel
theorem dX7_comes_21 : decode cX7_comes 21 = .ok (.imul, 1) := by decide +kernel
theorem dX7_comes_22 : decode cX7_comes 22 = .ok (.aload_n 0, 1) := by decide +kernel
theorem dX7_comes_23 : decode cX7_comes 23 = .ok (.iload 4, 2) := by decide +kernel
theorem dX7_comes_25 : decode cX7_comes 25 = .ok (.iconst 1, 1) := by decide +kernel
theorem dX7_comes_26 : decode cX7_comes 26 = .ok (.isub, 1) := by decide +kernel
theorem dX7_comes_27 : decode cX7_comes 27 = .ok (.iconst 0, 1) := by decide +kernel
theorem dX7_comes_28 : decode cX7_comes 28 = .ok (.invokestatic 201, 3) := by decide +kernel
theorem dX7_comes_31 : decode cX7_comes 31 = .ok (.iadd, 1) := by decide +kernel
theorem dX7_comes_32 : decode cX7_comes 32 = .ok (.iconst 3, 1) := by decide +kernel
theorem dX7_comes_33 : decode cX7_comes 33 = .ok (.iload_n 2, 1) := by decide +kernel
theorem dX7_comes_34 : decode cX7_comes 34 = .ok (.imul, 1) := by decide +kernel
theorem dX7_comes_35 : decode cX7_comes 35 = .ok (.iload_n 1, 1) := by decide +kernel
theorem dX7_comes_36 : decode cX7_comes 36 = .ok (.iadd, 1) := by decide +kernel
theorem dX7_comes_37 : decode cX7_comes 37 = .ok (.if_icmp .le 46, 3) := by decide +kernel
theorem dX7_comes_40 : decode cX7_comes 40 = .ok (.iconst 0, 1) := by decide +kernel
theorem dX7_comes_41 : decode cX7_comes 41 = .ok (.istore 5, 2) := by decide +kernel
theorem dX7_comes_43 : decode cX7_comes 43 = .ok (.iload 5, 2) := by decide +kernel
theorem dX7_comes_45 : decode cX7_comes 45 = .ok (.iconst 3, 1) := by decide +kernel
theorem dX7_comes_46 : decode cX7_comes 46 = .ok (.if_icmp .ge 31, 3) := by decide +kernel
theorem dX7_comes_49 : decode cX7_comes 49 = .ok (.aload_n 0, 1) := by decide +kernel
theorem dX7_comes_50 : decode cX7_comes 50 = .ok (.bipush 9, 2) := by decide +kernel
theorem dX7_comes_52 : decode cX7_comes 52 = .ok (.iconst 3, 1) := by decide +kernel
theorem dX7_comes_53 : decode cX7_comes 53 = .ok (.iload 4, 2) := by decide +kernel
theorem dX7_comes_55 : decode cX7_comes 55 = .ok (.imul, 1) := by decide +kernel
theorem dX7_comes_56 : decode cX7_comes 56 = .ok (.iadd, 1) := by decide +kernel
theorem dX7_comes_57 : decode cX7_comes 57 = .ok (.iload 5, 2) := by decide +kernel
theorem dX7_comes_59 : decode cX7_comes 59 = .ok (.iadd, 1) := by decide +kernel
theorem dX7_comes_60 : decode cX7_comes 60 = .ok (.aload_n 0, 1) := by decide +kernel
theorem dX7_comes_61 : decode cX7_comes 61 = .ok (.iload 4, 2) := by decide +kernel
theorem dX7_comes_63 : decode cX7_comes 63 = .ok (.iconst 1, 1) := by decide +kernel
theorem dX7_comes_64 : decode cX7_comes 64 = .ok (.isub, 1) := by decide +kernel
theorem dX7_comes_65 : decode cX7_comes 65 = .ok (.iload 5, 2) := by decide +kernel
theorem dX7_comes_67 : decode cX7_comes 67 = .ok (.invokestatic 201, 3) := by decide +kernel
theorem dX7_comes_70 : decode cX7_comes 70 = .ok (.iastore, 1) := by decide +kernel
theorem dX7_comes_71 : decode cX7_comes 71 = .ok (.iinc 5 1, 3) := by decide +kernel
theorem dX7_comes_74 : decode cX7_comes 74 = .ok (.goto (-31), 3) := by decide +kernel
theorem dX7_comes_77 : decode cX7_comes 77 = .ok (.iinc 4 (-1), 3) := by decide +kernel
theorem dX7_comes_80 : decode cX7_comes 80 = .ok (.goto (-74), 3) := by decide +kernel
theorem dX7_comes_83 : decode cX7_comes 83 = .ok (.aload_n 0, 1) := by decide +kernel
theorem dX7_comes_84 : decode cX7_comes 84 = .ok (.bipush 9, 2) := by decide +kernel
theorem dX7_comes_86 : decode cX7_comes 86 = .ok (.iconst 3, 1) := by decide +kernel
theorem dX7_comes_87 : decode cX7_comes 87 = .ok (.iload 4, 2) := by decide +kernel
theorem dX7_comes_89 : decode cX7_comes 89 = .ok (.imul, 1) := by decide +kernel
theorem dX7_comes_90 : decode cX7_comes 90 = .ok (.iadd, 1) := by decide +kernel
theorem dX7_comes_91 : decode cX7_comes 91 = .ok (.iload_n 1, 1) := by decide +kernel
theorem dX7_comes_92 : decode cX7_comes 92 = .ok (.iastore, 1) := by decide +kernel
theorem dX7_comes_93 : decode cX7_comes 93 = .ok (.aload_n 0, 1) := by decide +kernel
theorem dX7_comes_94 : decode cX7_comes 94 = .ok (.bipush 9, 2) := by decide +kernel
theorem dX7_comes_96 : decode cX7_comes 96 = .ok (.iconst 3, 1) := by decide +kernel
theorem dX7_comes_97 : decode cX7_comes 97 = .ok (.iload 4, 2) := by decide +kernel
theorem dX7_comes_99 : decode cX7_comes 99 = .ok (.imul, 1) := by decide +kernel
theorem dX7_comes_100 : decode cX7_comes 100 = .ok (.iadd, 1) := by decide +kernel
theorem dX7_comes_101 : decode cX7_comes 101 = .ok (.iconst 1, 1) := by decide +kernel
theorem dX7_comes_102 : decode cX7_comes 102 = .ok (.iadd, 1) := by decide +kernel
theorem dX7_comes_103 : decode cX7_comes 103 = .ok (.iload_n 2, 1) := by decide +kernel
theorem dX7_comes_104 : decode cX7_comes 104 = .ok (.iastore, 1) := by decide +kernel
theorem dX7_comes_105 : decode cX7_comes 105 = .ok (.aload_n 0, 1) := by decide +kernel
theorem dX7_comes_106 : decode cX7_comes 106 = .ok (.bipush 9, 2) := by decide +kernel
theorem dX7_comes_108 : decode cX7_comes 108 = .ok (.iconst 3, 1) := by decide +kernel
theorem dX7_comes_109 : decode cX7_comes 109 = .ok (.iload 4, 2) := by decide +kernel
theorem dX7_comes_111 : decode cX7_comes 111 = .ok (.imul, 1) := by decide +kernel
theorem dX7_comes_112 : decode cX7_comes 112 = .ok (.iadd, 1) := by decide +kernel
theorem dX7_comes_113 : decode cX7_comes 113 = .ok (.iconst 2, 1) := by decide +kernel
theorem dX7_comes_114 : decode cX7_comes 114 = .ok (.iadd, 1) := by decide +kernel
theorem dX7_comes_115 : decode cX7_comes 115 = .ok (.iload_n 3, 1) := by decide +kernel
theorem dX7_comes_116 : decode cX7_comes 116 = .ok (.iastore, 1) := by decide +kernel
theorem dX7_comes_117 : decode cX7_comes 117 = .ok (.aload_n 0, 1) := by decide +kernel
theorem dX7_comes_118 : decode cX7_comes 118 = .ok (.bipush 8, 2) := by decide +kernel
theorem dX7_comes_120 : decode cX7_comes 120 = .ok (.dup2, 1) := by decide +kernel
theorem dX7_comes_121 : decode cX7_comes 121 = .ok (.iaload, 1) := by decide +kernel
theorem dX7_comes_122 : decode cX7_comes 122 = .ok (.iconst 1, 1) := by decide +kernel
theorem dX7_comes_123 : decode cX7_comes 123 = .ok (.iadd, 1) := by decide +kernel
theorem dX7_comes_124 : decode cX7_comes 124 = .ok (.iastore, 1) := by decide +kernel
theorem dX7_comes_125 : decode cX7_comes 125 = .ok (.iload 4, 2) := by decide +kernel
theorem dX7_comes_127 : decode cX7_comes 127 = .ok (.ireturn, 1) := by decide +kernel
theorem dX7_goes_0 : decode cX7_goes 0 = .ok (.aload_n 0, 1) := by decide +kernel
theorem dX7_goes_1 : decode cX7_goes 1 = .ok (.bipush 8, 2) := by decide +kernel
theorem dX7_goes_3 : decode cX7_goes 3 = .ok (.dup2, 1) := by decide +kernel
theorem dX7_goes_4 : decode cX7_goes 4 = .ok (.iaload, 1) := by decide +kernel
theorem dX7_goes_5 : decode cX7_goes 5 = .ok (.iconst 1, 1) := by decide +kernel
theorem dX7_goes_6 : decode cX7_goes 6 = .ok (.isub, 1) := by decide +kernel
theorem dX7_goes_7 : decode cX7_goes 7 = .ok (.iastore, 1) := by decide +kernel
theorem dX7_goes_8 : decode cX7_goes 8 = .ok (.bipush 9, 2) := by decide +kernel
theorem dX7_goes_10 : decode cX7_goes 10 = .ok (.iconst 3, 1) := by decide +kernel
theorem dX7_goes_11 : decode cX7_goes 11 = .ok (.iload_n 1, 1) := by decide +kernel
theorem dX7_goes_12 : decode cX7_goes 12 = .ok (.imul, 1) := by decide +kernel
theorem dX7_goes_13 : decode cX7_goes 13 = .ok (.iadd, 1) := by decide +kernel
theorem dX7_goes_14 : decode cX7_goes 14 = .ok (.istore_n 2, 1) := by decide +kernel
theorem dX7_goes_15 : decode cX7_goes 15 = .ok (.iload_n 2, 1) := by decide +kernel
theorem dX7_goes_16 : decode cX7_goes 16 = .ok (.bipush 9, 2) := by decide +kernel
theorem dX7_goes_18 : decode cX7_goes 18 = .ok (.iconst 3, 1) := by decide +kernel
theorem dX7_goes_19 : decode cX7_goes 19 = .ok (.aload_n 0, 1) := by decide +kernel
theorem dX7_goes_20 : decode cX7_goes 20 = .ok (.bipush 8, 2) := by decide +kernel
theorem dX7_goes_22 : decode cX7_goes 22 = .ok (.iaload, 1) := by decide +kernel
theorem dX7_goes_23 : decode cX7_goes 23 = .ok (.imul, 1) := by decide +kernel
theorem dX7_goes_24 : decode cX7_goes 24 = .ok (.iadd, 1) := by decide +kernel
theorem dX7_goes_25 : decode cX7_goes 25 = .ok (.if_icmp .ge 17, 3) := by decide +kernel
theorem dX7_goes_28 : decode cX7_goes 28 = .ok (.aload_n 0, 1) := by decide +kernel
theorem dX7_goes_29 : decode cX7_goes 29 = .ok (.iload_n 2, 1) := by decide +kernel
theorem dX7_goes_30 : decode cX7_goes 30 = .ok (.aload_n 0, 1) := by decide +kernel
theorem dX7_goes_31 : decode cX7_goes 31 = .ok (.iload_n 2, 1) := by decide +kernel
theorem dX7_goes_32 : decode cX7_goes 32 = .ok (.iconst 3, 1) := by decide +kernel
theorem dX7_goes_33 : decode cX7_goes 33 = .ok (.iadd, 1) := by decide +kernel
theorem dX7_goes_34 : decode cX7_goes 34 = .ok (.iaload, 1) := by decide +kernel
theorem dX7_goes_35 : decode cX7_goes 35 = .ok (.iastore, 1) := by decide +kernel
theorem dX7_goes_36 : decode cX7_goes 36 = .ok (.iinc 2 1, 3) := by decide +kernel
theorem dX7_goes_39 : decode cX7_goes 39 = .ok (.goto (-24), 3) := by decide +kernel
theorem dX7_goes_42 : decode cX7_goes 42 = .ok (.return_, 1) := by decide +kernel
theorem dX7_sends_0 : decode cX7_sends 0 = .ok (.aload_n 0, 1) := by decide +kernel
theorem dX7_sends_1 : decode cX7_sends 1 = .ok (.getfield 204, 3) := by decide +kernel
theorem dX7_sends_4 : decode cX7_sends 4 = .ok (.bipush 120, 2) := by decide +kernel
theorem dX7_sends_6 : decode cX7_sends 6 = .ok (.if_icmp .ne 4, 3) := by decide +kernel
theorem dX7_sends_9 : decode cX7_sends 9 = .ok (.return_, 1) := by decide +kernel
theorem dX7_sends_10 : decode cX7_sends 10 = .ok (.aload_n 0, 1) := by decide +kernel
theorem dX7_sends_11 : decode cX7_sends 11 = .ok (.getfield 204, 3) := by decide +kernel
theorem dX7_sends_14 : decode cX7_sends 14 = .ok (.istore_n 3, 1) := by decide +kernel
theorem dX7_sends_15 : decode cX7_sends 15 = .ok (.aload_n 0, 1) := by decide +kernel
theorem dX7_sends_16 : decode cX7_sends 16 = .ok (.dup, 1) := by decide +kernel
theorem dX7_sends_17 : decode cX7_sends 17 = .ok (.getfield 204, 3) := by decide +kernel
theorem dX7_sends_20 : decode cX7_sends 20 = .ok (.iconst 1, 1) := by decide +kernel
theorem dX7_sends_21 : decode cX7_sends 21 = .ok (.iadd, 1) := by decide +kernel
theorem dX7_sends_22 : decode cX7_sends 22 = .ok (.putfield 204, 3) := by decide +kernel
theorem dX7_sends_25 : decode cX7_sends 25 = .ok (.aload_n 0, 1) := by decide +kernel
theorem dX7_sends_26 : decode cX7_sends 26 = .ok (.getfield 30, 3) := by decide +kernel
theorem dX7_sends_29 : decode cX7_sends 29 = .ok (.iload_n 3, 1) := by decide +kernel
theorem dX7_sends_30 : decode cX7_sends 30 = .ok (.aload_n 0, 1) := by decide +kernel
theorem dX7_sends_31 : decode cX7_sends 31 = .ok (.getfield 207, 3) := by decide +kernel
theorem dX7_sends_34 : decode cX7_sends 34 = .ok (.iastore, 1) := by decide +kernel
theorem dX7_sends_35 : decode cX7_sends 35 = .ok (.aload_n 0, 1) := by decide +kernel
theorem dX7_sends_36 : decode cX7_sends 36 = .ok (.getfield 33, 3) := by decide +kernel
theorem dX7_sends_39 : decode cX7_sends 39 = .ok (.iload_n 3, 1) := by decide +kernel
theorem dX7_sends_40 : decode cX7_sends 40 = .ok (.iload_n 1, 1) := by decide +kernel
theorem dX7_sends_41 : decode cX7_sends 41 = .ok (.iastore, 1) := by decide +kernel
theorem dX7_sends_42 : decode cX7_sends 42 = .ok (.aload_n 0, 1) := by decide +kernel
theorem dX7_sends_43 : decode cX7_sends 43 = .ok (.getfield 36, 3) := by decide +kernel
theorem dX7_sends_46 : decode cX7_sends 46 = .ok (.iload_n 3, 1) := by decide +kernel
theorem dX7_sends_47 : decode cX7_sends 47 = .ok (.iload_n 2, 1) := by decide +kernel
theorem dX7_sends_48 : decode cX7_sends 48 = .ok (.iastore, 1) := by decide +kernel
theorem dX7_sends_49 : decode cX7_sends 49 = .ok (.aload_n 0, 1) := by decide +kernel
theorem dX7_sends_50 : decode cX7_sends 50 = .ok (.getfield 39, 3) := by decide +kernel
theorem dX7_sends_53 : decode cX7_sends 53 = .ok (.iload_n 3, 1) := by decide +kernel
theorem dX7_sends_54 : decode cX7_sends 54 = .ok (.aload_n 0, 1) := by decide +kernel
theorem dX7_sends_55 : decode cX7_sends 55 = .ok (.getfield 207, 3) := by decide +kernel
theorem dX7_sends_58 : decode cX7_sends 58 = .ok (.aload_n 0, 1) := by decide +kernel
theorem dX7_sends_59 : decode cX7_sends 59 = .ok (.getfield 24, 3) := by decide +kernel
theorem dX7_sends_62 : decode cX7_sends 62 = .ok (.iconst 3, 1) := by decide +kernel
theorem dX7_sends_63 : decode cX7_sends 63 = .ok (.iaload, 1) := by decide +kernel
theorem dX7_sends_64 : decode cX7_sends 64 = .ok (.iadd, 1) := by decide +kernel
theorem dX7_sends_65 : decode cX7_sends 65 = .ok (.iastore, 1) := by decide +kernel
theorem dX7_sends_66 : decode cX7_sends 66 = .ok (.aload_n 0, 1) := by decide +kernel
theorem dX7_sends_67 : decode cX7_sends 67 = .ok (.getfield 24, 3) := by decide +kernel
theorem dX7_sends_70 : decode cX7_sends 70 = .ok (.iconst 2, 1) := by decide +kernel
theorem dX7_sends_71 : decode cX7_sends 71 = .ok (.iload_n 3, 1) := by decide +kernel
theorem dX7_sends_72 : decode cX7_sends 72 = .ok (.invokestatic 137, 3) := by decide +kernel
theorem dX7_sends_75 : decode cX7_sends 75 = .ok (.istore 4, 2) := by decide +kernel
theorem dX7_sends_77 : decode cX7_sends 77 = .ok (.aload_n 0, 1) := by decide +kernel
theorem dX7_sends_78 : decode cX7_sends 78 = .ok (.getfield 39, 3) := by decide +kernel
theorem dX7_sends_81 : decode cX7_sends 81 = .ok (.iload_n 3, 1) := by decide +kernel
theorem dX7_sends_82 : decode cX7_sends 82 = .ok (.dup2, 1) := by decide +kernel
theorem dX7_sends_83 : decode cX7_sends 83 = .ok (.iaload, 1) := by decide +kernel
theorem dX7_sends_84 : decode cX7_sends 84 = .ok (.iload 4, 2) := by decide +kernel
theorem dX7_sends_86 : decode cX7_sends 86 = .ok (.iconst (-1), 1) := by decide +kernel
theorem dX7_sends_87 : decode cX7_sends 87 = .ok (.if_icmp .ne 7, 3) := by decide +kernel
theorem dX7_sends_90 : decode cX7_sends 90 = .ok (.iconst 0, 1) := by decide +kernel
theorem dX7_sends_91 : decode cX7_sends 91 = .ok (.goto 13, 3) := by decide +kernel
theorem dX7_sends_94 : decode cX7_sends 94 = .ok (.aload_n 0, 1) := by decide +kernel
theorem dX7_sends_95 : decode cX7_sends 95 = .ok (.getfield 24, 3) := by decide +kernel
theorem dX7_sends_98 : decode cX7_sends 98 = .ok (.iload 4, 2) := by decide +kernel
theorem dX7_sends_100 : decode cX7_sends 100 = .ok (.iconst 2, 1) := by decide +kernel
theorem dX7_sends_101 : decode cX7_sends 101 = .ok (.invokestatic 201, 3) := by decide +kernel
theorem dX7_sends_104 : decode cX7_sends 104 = .ok (.iadd, 1) := by decide +kernel
theorem dX7_sends_105 : decode cX7_sends 105 = .ok (.iastore, 1) := by decide +kernel
theorem dX7_sends_106 : decode cX7_sends 106 = .ok (.aload_n 0, 1) := by decide +kernel
theorem dX7_sends_107 : decode cX7_sends 107 = .ok (.getfield 42, 3) := by decide +kernel
theorem dX7_sends_110 : decode cX7_sends 110 = .ok (.iload_n 3, 1) := by decide +kernel
theorem dX7_sends_111 : decode cX7_sends 111 = .ok (.aload_n 0, 1) := by decide +kernel
theorem dX7_sends_112 : decode cX7_sends 112 = .ok (.getfield 24, 3) := by decide +kernel
theorem dX7_sends_115 : decode cX7_sends 115 = .ok (.iconst 1, 1) := by decide +kernel
theorem dX7_sends_116 : decode cX7_sends 116 = .ok (.iload_n 3, 1) := by decide +kernel
theorem dX7_sends_117 : decode cX7_sends 117 = .ok (.invokestatic 137, 3) := by decide +kernel
theorem dX7_sends_120 : decode cX7_sends 120 = .ok (.iconst (-1), 1) := by decide +kernel
theorem dX7_sends_121 : decode cX7_sends 121 = .ok (.if_icmp .ne 7, 3) := by decide +kernel
theorem dX7_sends_124 : decode cX7_sends 124 = .ok (.iconst (-1), 1) := by decide +kernel
theorem dX7_sends_125 : decode cX7_sends 125 = .ok (.goto 11, 3) := by decide +kernel
theorem dX7_sends_128 : decode cX7_sends 128 = .ok (.aload_n 0, 1) := by decide +kernel
theorem dX7_sends_129 : decode cX7_sends 129 = .ok (.getfield 39, 3) := by decide +kernel
theorem dX7_sends_132 : decode cX7_sends 132 = .ok (.iload_n 3, 1) := by decide +kernel
theorem dX7_sends_133 : decode cX7_sends 133 = .ok (.iaload, 1) := by decide +kernel
theorem dX7_sends_134 : decode cX7_sends 134 = .ok (.iconst 1, 1) := by decide +kernel
theorem dX7_sends_135 : decode cX7_sends 135 = .ok (.iadd, 1) := by decide +kernel
theorem dX7_sends_136 : decode cX7_sends 136 = .ok (.iastore, 1) := by decide +kernel
theorem dX7_sends_137 : decode cX7_sends 137 = .ok (.aload_n 0, 1) := by decide +kernel
theorem dX7_sends_138 : decode cX7_sends 138 = .ok (.getfield 24, 3) := by decide +kernel
theorem dX7_sends_141 : decode cX7_sends 141 = .ok (.iconst 0, 1) := by decide +kernel
theorem dX7_sends_142 : decode cX7_sends 142 = .ok (.iload_n 3, 1) := by decide +kernel
theorem dX7_sends_143 : decode cX7_sends 143 = .ok (.invokestatic 137, 3) := by decide +kernel
theorem dX7_sends_146 : decode cX7_sends 146 = .ok (.iconst (-1), 1) := by decide +kernel
theorem dX7_sends_147 : decode cX7_sends 147 = .ok (.if_icmp .eq 17, 3) := by decide +kernel
theorem dX7_sends_150 : decode cX7_sends 150 = .ok (.aload_n 0, 1) := by decide +kernel
theorem dX7_sends_151 : decode cX7_sends 151 = .ok (.getfield 39, 3) := by decide +kernel
theorem dX7_sends_154 : decode cX7_sends 154 = .ok (.iload_n 3, 1) := by decide +kernel
theorem dX7_sends_155 : decode cX7_sends 155 = .ok (.iconst (-1), 1) := by decide +kernel
theorem dX7_sends_156 : decode cX7_sends 156 = .ok (.iastore, 1) := by decide +kernel
theorem dX7_sends_157 : decode cX7_sends 157 = .ok (.aload_n 0, 1) := by decide +kernel
theorem dX7_sends_158 : decode cX7_sends 158 = .ok (.getfield 42, 3) := by decide +kernel
theorem dX7_sends_161 : decode cX7_sends 161 = .ok (.iload_n 3, 1) := by decide +kernel
theorem dX7_sends_162 : decode cX7_sends 162 = .ok (.iconst (-1), 1) := by decide +kernel
theorem dX7_sends_163 : decode cX7_sends 163 = .ok (.iastore, 1) := by decide +kernel
theorem dX7_sends_164 : decode cX7_sends 164 = .ok (.return_, 1) := by decide +kernel
theorem dX7_delivers_0 : decode cX7_delivers 0 = .ok (.aload_n 0, 1) := by decide +kernel
theorem dX7_delivers_1 : decode cX7_delivers 1 = .ok (.getfield 45, 3) := by decide +kernel
theorem dX7_delivers_4 : decode cX7_delivers 4 = .ok (.aload_n 0, 1) := by decide +kernel
theorem dX7_delivers_5 : decode cX7_delivers 5 = .ok (.getfield 210, 3) := by decide +kernel
theorem dX7_delivers_8 : decode cX7_delivers 8 = .ok (.iload_n 1, 1) := by decide +kernel
theorem dX7_delivers_9 : decode cX7_delivers 9 = .ok (.iastore, 1) := by decide +kernel
theorem dX7_delivers_10 : decode cX7_delivers 10 = .ok (.aload_n 0, 1) := by decide +kernel
theorem dX7_delivers_11 : decode cX7_delivers 11 = .ok (.dup, 1) := by decide +kernel
theorem dX7_delivers_12 : decode cX7_delivers 12 = .ok (.getfield 210, 3) := by decide +kernel
theorem dX7_delivers_15 : decode cX7_delivers 15 = .ok (.iconst 1, 1) := by decide +kernel
theorem dX7_delivers_16 : decode cX7_delivers 16 = .ok (.iadd, 1) := by decide +kernel
theorem dX7_delivers_17 : decode cX7_delivers 17 = .ok (.putfield 210, 3) := by decide +kernel
theorem dX7_delivers_20 : decode cX7_delivers 20 = .ok (.aload_n 0, 1) := by decide +kernel
theorem dX7_delivers_21 : decode cX7_delivers 21 = .ok (.dup, 1) := by decide +kernel
theorem dX7_delivers_22 : decode cX7_delivers 22 = .ok (.getfield 213, 3) := by decide +kernel
theorem dX7_delivers_25 : decode cX7_delivers 25 = .ok (.iconst 1, 1) := by decide +kernel
theorem dX7_delivers_26 : decode cX7_delivers 26 = .ok (.iload_n 1, 1) := by decide +kernel
theorem dX7_delivers_27 : decode cX7_delivers 27 = .ok (.ishl, 1) := by decide +kernel
theorem dX7_delivers_28 : decode cX7_delivers 28 = .ok (.ior, 1) := by decide +kernel
theorem dX7_delivers_29 : decode cX7_delivers 29 = .ok (.putfield 213, 3) := by decide +kernel
theorem dX7_delivers_32 : decode cX7_delivers 32 = .ok (.aload_n 0, 1) := by decide +kernel
theorem dX7_delivers_33 : decode cX7_delivers 33 = .ok (.getfield 216, 3) := by decide +kernel
theorem dX7_delivers_36 : decode cX7_delivers 36 = .ok (.iconst (-1), 1) := by decide +kernel
theorem dX7_delivers_37 : decode cX7_delivers 37 = .ok (.if_icmp .ne 28, 3) := by decide +kernel
theorem dX7_delivers_40 : decode cX7_delivers 40 = .ok (.aload_n 0, 1) := by decide +kernel
theorem dX7_delivers_41 : decode cX7_delivers 41 = .ok (.getfield 213, 3) := by decide +kernel
theorem dX7_delivers_44 : decode cX7_delivers 44 = .ok (.iconst 1, 1) := by decide +kernel
theorem dX7_delivers_45 : decode cX7_delivers 45 = .ok (.aload_n 0, 1) := by decide +kernel
theorem dX7_delivers_46 : decode cX7_delivers 46 = .ok (.getfield 24, 3) := by decide +kernel
theorem dX7_delivers_49 : decode cX7_delivers 49 = .ok (.iconst 1, 1) := by decide +kernel
theorem dX7_delivers_50 : decode cX7_delivers 50 = .ok (.iaload, 1) := by decide +kernel
theorem dX7_delivers_51 : decode cX7_delivers 51 = .ok (.ishl, 1) := by decide +kernel
theorem dX7_delivers_52 : decode cX7_delivers 52 = .ok (.iconst 1, 1) := by decide +kernel
theorem dX7_delivers_53 : decode cX7_delivers 53 = .ok (.isub, 1) := by decide +kernel
theorem dX7_delivers_54 : decode cX7_delivers 54 = .ok (.if_icmp .ne 11, 3) := by decide +kernel
theorem dX7_delivers_57 : decode cX7_delivers 57 = .ok (.aload_n 0, 1) := by decide +kernel
theorem dX7_delivers_58 : decode cX7_delivers 58 = .ok (.aload_n 0, 1) := by decide +kernel
theorem dX7_delivers_59 : decode cX7_delivers 59 = .ok (.getfield 207, 3) := by decide +kernel
theorem dX7_delivers_62 : decode cX7_delivers 62 = .ok (.putfield 216, 3) := by decide +kernel
theorem dX7_delivers_65 : decode cX7_delivers 65 = .ok (.return_, 1) := by decide +kernel
theorem dX7_dataComes_0 : decode cX7_dataComes 0 = .ok (.aload_n 0, 1) := by decide +kernel
theorem dX7_dataComes_1 : decode cX7_dataComes 1 = .ok (.getfield 24, 3) := by decide +kernel
theorem dX7_dataComes_4 : decode cX7_dataComes 4 = .ok (.iconst 0, 1) := by decide +kernel
theorem dX7_dataComes_5 : decode cX7_dataComes 5 = .ok (.iaload, 1) := by decide +kernel
theorem dX7_dataComes_6 : decode cX7_dataComes 6 = .ok (.ifCond .ne 9, 3) := by decide +kernel
theorem dX7_dataComes_9 : decode cX7_dataComes 9 = .ok (.aload_n 0, 1) := by decide +kernel
theorem dX7_dataComes_10 : decode cX7_dataComes 10 = .ok (.iload_n 1, 1) := by decide +kernel
theorem dX7_dataComes_11 : decode cX7_dataComes 11 = .ok (.invokevirtual 219, 3) := by decide +kernel
theorem dX7_dataComes_14 : decode cX7_dataComes 14 = .ok (.return_, 1) := by decide +kernel
theorem dX7_dataComes_15 : decode cX7_dataComes 15 = .ok (.aload_n 0, 1) := by decide +kernel
theorem dX7_dataComes_16 : decode cX7_dataComes 16 = .ok (.getfield 24, 3) := by decide +kernel
theorem dX7_dataComes_19 : decode cX7_dataComes 19 = .ok (.iconst 0, 1) := by decide +kernel
theorem dX7_dataComes_20 : decode cX7_dataComes 20 = .ok (.iaload, 1) := by decide +kernel
theorem dX7_dataComes_21 : decode cX7_dataComes 21 = .ok (.iconst 1, 1) := by decide +kernel
theorem dX7_dataComes_22 : decode cX7_dataComes 22 = .ok (.if_icmp .ne 7, 3) := by decide +kernel
theorem dX7_dataComes_25 : decode cX7_dataComes 25 = .ok (.iconst 2, 1) := by decide +kernel
theorem dX7_dataComes_26 : decode cX7_dataComes 26 = .ok (.goto 10, 3) := by decide +kernel
theorem dX7_dataComes_29 : decode cX7_dataComes 29 = .ok (.aload_n 0, 1) := by decide +kernel
theorem dX7_dataComes_30 : decode cX7_dataComes 30 = .ok (.getfield 24, 3) := by decide +kernel
theorem dX7_dataComes_33 : decode cX7_dataComes 33 = .ok (.bipush 6, 2) := by decide +kernel
theorem dX7_dataComes_35 : decode cX7_dataComes 35 = .ok (.iaload, 1) := by decide +kernel
theorem dX7_dataComes_36 : decode cX7_dataComes 36 = .ok (.istore_n 2, 1) := by decide +kernel
theorem dX7_dataComes_37 : decode cX7_dataComes 37 = .ok (.iload_n 1, 1) := by decide +kernel
theorem dX7_dataComes_38 : decode cX7_dataComes 38 = .ok (.iload_n 2, 1) := by decide +kernel
theorem dX7_dataComes_39 : decode cX7_dataComes 39 = .ok (.irem, 1) := by decide +kernel
theorem dX7_dataComes_40 : decode cX7_dataComes 40 = .ok (.aload_n 0, 1) := by decide +kernel
theorem dX7_dataComes_41 : decode cX7_dataComes 41 = .ok (.getfield 222, 3) := by decide +kernel
theorem dX7_dataComes_44 : decode cX7_dataComes 44 = .ok (.iload_n 2, 1) := by decide +kernel
theorem dX7_dataComes_45 : decode cX7_dataComes 45 = .ok (.irem, 1) := by decide +kernel
theorem dX7_dataComes_46 : decode cX7_dataComes 46 = .ok (.if_icmp .ne 7, 3) := by decide +kernel
theorem dX7_dataComes_49 : decode cX7_dataComes 49 = .ok (.iconst 1, 1) := by decide +kernel
theorem dX7_dataComes_50 : decode cX7_dataComes 50 = .ok (.goto 4, 3) := by decide +kernel
theorem dX7_dataComes_53 : decode cX7_dataComes 53 = .ok (.iconst 0, 1) := by decide +kernel
theorem dX7_dataComes_54 : decode cX7_dataComes 54 = .ok (.istore_n 3, 1) := by decide +kernel
theorem dX7_dataComes_55 : decode cX7_dataComes 55 = .ok (.iload_n 3, 1) := by decide +kernel
theorem dX7_dataComes_56 : decode cX7_dataComes 56 = .ok (.ifCond .eq 18, 3) := by decide +kernel
theorem dX7_dataComes_59 : decode cX7_dataComes 59 = .ok (.aload_n 0, 1) := by decide +kernel
theorem dX7_dataComes_60 : decode cX7_dataComes 60 = .ok (.iload_n 1, 1) := by decide +kernel
theorem dX7_dataComes_61 : decode cX7_dataComes 61 = .ok (.invokevirtual 219, 3) := by decide +kernel
theorem dX7_dataComes_64 : decode cX7_dataComes 64 = .ok (.aload_n 0, 1) := by decide +kernel
theorem dX7_dataComes_65 : decode cX7_dataComes 65 = .ok (.dup, 1) := by decide +kernel
theorem dX7_dataComes_66 : decode cX7_dataComes 66 = .ok (.getfield 222, 3) := by decide +kernel
theorem dX7_dataComes_69 : decode cX7_dataComes 69 = .ok (.iconst 1, 1) := by decide +kernel
theorem dX7_dataComes_70 : decode cX7_dataComes 70 = .ok (.iadd, 1) := by decide +kernel
theorem dX7_dataComes_71 : decode cX7_dataComes 71 = .ok (.putfield 222, 3) := by decide +kernel
theorem dX7_dataComes_74 : decode cX7_dataComes 74 = .ok (.aload_n 0, 1) := by decide +kernel
theorem dX7_dataComes_75 : decode cX7_dataComes 75 = .ok (.iconst 1, 1) := by decide +kernel
theorem dX7_dataComes_76 : decode cX7_dataComes 76 = .ok (.aload_n 0, 1) := by decide +kernel
theorem dX7_dataComes_77 : decode cX7_dataComes 77 = .ok (.getfield 24, 3) := by decide +kernel
theorem dX7_dataComes_80 : decode cX7_dataComes 80 = .ok (.iconst 0, 1) := by decide +kernel
theorem dX7_dataComes_81 : decode cX7_dataComes 81 = .ok (.iaload, 1) := by decide +kernel
theorem dX7_dataComes_82 : decode cX7_dataComes 82 = .ok (.iconst 1, 1) := by decide +kernel
theorem dX7_dataComes_83 : decode cX7_dataComes 83 = .ok (.if_icmp .ne 9, 3) := by decide +kernel
theorem dX7_dataComes_86 : decode cX7_dataComes 86 = .ok (.iload_n 1, 1) := by decide +kernel
theorem dX7_dataComes_87 : decode cX7_dataComes 87 = .ok (.iconst 2, 1) := by decide +kernel
theorem dX7_dataComes_88 : decode cX7_dataComes 88 = .ok (.irem, 1) := by decide +kernel
theorem dX7_dataComes_89 : decode cX7_dataComes 89 = .ok (.goto 9, 3) := by decide +kernel
theorem dX7_dataComes_92 : decode cX7_dataComes 92 = .ok (.aload_n 0, 1) := by decide +kernel
theorem dX7_dataComes_93 : decode cX7_dataComes 93 = .ok (.getfield 222, 3) := by decide +kernel
theorem dX7_dataComes_96 : decode cX7_dataComes 96 = .ok (.iload_n 2, 1) := by decide +kernel
theorem dX7_dataComes_97 : decode cX7_dataComes 97 = .ok (.irem, 1) := by decide +kernel
theorem dX7_dataComes_98 : decode cX7_dataComes 98 = .ok (.invokevirtual 225, 3) := by decide +kernel
theorem dX7_dataComes_101 : decode cX7_dataComes 101 = .ok (.return_, 1) := by decide +kernel
theorem dX7_answerComes_0 : decode cX7_answerComes 0 = .ok (.aload_n 0, 1) := by decide +kernel
theorem dX7_answerComes_1 : decode cX7_answerComes 1 = .ok (.getfield 24, 3) := by decide +kernel
theorem dX7_answerComes_4 : decode cX7_answerComes 4 = .ok (.iconst 0, 1) := by decide +kernel
theorem dX7_answerComes_5 : decode cX7_answerComes 5 = .ok (.iaload, 1) := by decide +kernel
theorem dX7_answerComes_6 : decode cX7_answerComes 6 = .ok (.iconst 1, 1) := by decide +kernel
theorem dX7_answerComes_7 : decode cX7_answerComes 7 = .ok (.if_icmp .ne 42, 3) := by decide +kernel
theorem dX7_answerComes_10 : decode cX7_answerComes 10 = .ok (.aload_n 0, 1) := by decide +kernel
theorem dX7_answerComes_11 : decode cX7_answerComes 11 = .ok (.getfield 229, 3) := by decide +kernel
theorem dX7_answerComes_14 : decode cX7_answerComes 14 = .ok (.aload_n 0, 1) := by decide +kernel
theorem dX7_answerComes_15 : decode cX7_answerComes 15 = .ok (.getfield 24, 3) := by decide +kernel
theorem dX7_answerComes_18 : decode cX7_answerComes 18 = .ok (.iconst 1, 1) := by decide +kernel
theorem dX7_answerComes_19 : decode cX7_answerComes 19 = .ok (.iaload, 1) := by decide +kernel
theorem dX7_answerComes_20 : decode cX7_answerComes 20 = .ok (.if_icmp .ge 28, 3) := by decide +kernel
theorem dX7_answerComes_23 : decode cX7_answerComes 23 = .ok (.iload_n 1, 1) := by decide +kernel
theorem dX7_answerComes_24 : decode cX7_answerComes 24 = .ok (.aload_n 0, 1) := by decide +kernel
theorem dX7_answerComes_25 : decode cX7_answerComes 25 = .ok (.getfield 229, 3) := by decide +kernel
theorem dX7_answerComes_28 : decode cX7_answerComes 28 = .ok (.iconst 2, 1) := by decide +kernel
theorem dX7_answerComes_29 : decode cX7_answerComes 29 = .ok (.irem, 1) := by decide +kernel
theorem dX7_answerComes_30 : decode cX7_answerComes 30 = .ok (.if_icmp .ne 18, 3) := by decide +kernel
theorem dX7_answerComes_33 : decode cX7_answerComes 33 = .ok (.aload_n 0, 1) := by decide +kernel
theorem dX7_answerComes_34 : decode cX7_answerComes 34 = .ok (.dup, 1) := by decide +kernel
theorem dX7_answerComes_35 : decode cX7_answerComes 35 = .ok (.getfield 229, 3) := by decide +kernel
theorem dX7_answerComes_38 : decode cX7_answerComes 38 = .ok (.iconst 1, 1) := by decide +kernel
theorem dX7_answerComes_39 : decode cX7_answerComes 39 = .ok (.iadd, 1) := by decide +kernel
theorem dX7_answerComes_40 : decode cX7_answerComes 40 = .ok (.putfield 229, 3) := by decide +kernel
theorem dX7_answerComes_43 : decode cX7_answerComes 43 = .ok (.aload_n 0, 1) := by decide +kernel
theorem dX7_answerComes_44 : decode cX7_answerComes 44 = .ok (.iconst (-1), 1) := by decide +kernel
theorem dX7_answerComes_45 : decode cX7_answerComes 45 = .ok (.putfield 232, 3) := by decide +kernel
theorem dX7_answerComes_48 : decode cX7_answerComes 48 = .ok (.return_, 1) := by decide +kernel
theorem dX7_answerComes_49 : decode cX7_answerComes 49 = .ok (.iconst 1, 1) := by decide +kernel
theorem dX7_answerComes_50 : decode cX7_answerComes 50 = .ok (.istore_n 2, 1) := by decide +kernel
theorem dX7_answerComes_51 : decode cX7_answerComes 51 = .ok (.iload_n 2, 1) := by decide +kernel
theorem dX7_answerComes_52 : decode cX7_answerComes 52 = .ok (.aload_n 0, 1) := by decide +kernel
theorem dX7_answerComes_53 : decode cX7_answerComes 53 = .ok (.getfield 235, 3) := by decide +kernel
theorem dX7_answerComes_56 : decode cX7_answerComes 56 = .ok (.aload_n 0, 1) := by decide +kernel
theorem dX7_answerComes_57 : decode cX7_answerComes 57 = .ok (.getfield 229, 3) := by decide +kernel
theorem dX7_answerComes_60 : decode cX7_answerComes 60 = .ok (.isub, 1) := by decide +kernel
theorem dX7_answerComes_61 : decode cX7_answerComes 61 = .ok (.if_icmp .gt 46, 3) := by decide +kernel
theorem dX7_answerComes_64 : decode cX7_answerComes 64 = .ok (.aload_n 0, 1) := by decide +kernel
theorem dX7_answerComes_65 : decode cX7_answerComes 65 = .ok (.getfield 229, 3) := by decide +kernel
theorem dX7_answerComes_68 : decode cX7_answerComes 68 = .ok (.iload_n 2, 1) := by decide +kernel
theorem dX7_answerComes_69 : decode cX7_answerComes 69 = .ok (.iadd, 1) := by decide +kernel
theorem dX7_answerComes_70 : decode cX7_answerComes 70 = .ok (.aload_n 0, 1) := by decide +kernel
theorem dX7_answerComes_71 : decode cX7_answerComes 71 = .ok (.getfield 24, 3) := by decide +kernel
theorem dX7_answerComes_74 : decode cX7_answerComes 74 = .ok (.bipush 6, 2) := by decide +kernel
theorem dX7_answerComes_76 : decode cX7_answerComes 76 = .ok (.iaload, 1) := by decide +kernel
theorem dX7_answerComes_77 : decode cX7_answerComes 77 = .ok (.irem, 1) := by decide +kernel
theorem dX7_answerComes_78 : decode cX7_answerComes 78 = .ok (.iload_n 1, 1) := by decide +kernel
theorem dX7_answerComes_79 : decode cX7_answerComes 79 = .ok (.if_icmp .ne 22, 3) := by decide +kernel
theorem dX7_answerComes_82 : decode cX7_answerComes 82 = .ok (.aload_n 0, 1) := by decide +kernel
theorem dX7_answerComes_83 : decode cX7_answerComes 83 = .ok (.dup, 1) := by decide +kernel
theorem dX7_answerComes_84 : decode cX7_answerComes 84 = .ok (.getfield 229, 3) := by decide +kernel
theorem dX7_answerComes_87 : decode cX7_answerComes 87 = .ok (.iload_n 2, 1) := by decide +kernel
theorem dX7_answerComes_88 : decode cX7_answerComes 88 = .ok (.iadd, 1) := by decide +kernel
theorem dX7_answerComes_89 : decode cX7_answerComes 89 = .ok (.putfield 229, 3) := by decide +kernel
theorem dX7_answerComes_92 : decode cX7_answerComes 92 = .ok (.aload_n 0, 1) := by decide +kernel
theorem dX7_answerComes_93 : decode cX7_answerComes 93 = .ok (.aload_n 0, 1) := by decide +kernel
theorem dX7_answerComes_94 : decode cX7_answerComes 94 = .ok (.getfield 207, 3) := by decide +kernel
theorem dX7_answerComes_97 : decode cX7_answerComes 97 = .ok (.putfield 232, 3) := by decide +kernel
theorem dX7_answerComes_100 : decode cX7_answerComes 100 = .ok (.return_, 1) := by decide +kernel
theorem dX7_answerComes_101 : decode cX7_answerComes 101 = .ok (.iinc 2 1, 3) := by decide +kernel
theorem dX7_answerComes_104 : decode cX7_answerComes 104 = .ok (.goto (-53), 3) := by decide +kernel
theorem dX7_answerComes_107 : decode cX7_answerComes 107 = .ok (.return_, 1) := by decide +kernel
theorem dX7_senderGoes_0 : decode cX7_senderGoes 0 = .ok (.aload_n 0, 1) := by decide +kernel
theorem dX7_senderGoes_1 : decode cX7_senderGoes 1 = .ok (.getfield 24, 3) := by decide +kernel
theorem dX7_senderGoes_4 : decode cX7_senderGoes 4 = .ok (.iconst 0, 1) := by decide +kernel
theorem dX7_senderGoes_5 : decode cX7_senderGoes 5 = .ok (.iaload, 1) := by decide +kernel
theorem dX7_senderGoes_6 : decode cX7_senderGoes 6 = .ok (.ifCond .ne 36, 3) := by decide +kernel
theorem dX7_senderGoes_9 : decode cX7_senderGoes 9 = .ok (.aload_n 0, 1) := by decide +kernel
theorem dX7_senderGoes_10 : decode cX7_senderGoes 10 = .ok (.getfield 229, 3) := by decide +kernel
theorem dX7_senderGoes_13 : decode cX7_senderGoes 13 = .ok (.aload_n 0, 1) := by decide +kernel
theorem dX7_senderGoes_14 : decode cX7_senderGoes 14 = .ok (.getfield 24, 3) := by decide +kernel
theorem dX7_senderGoes_17 : decode cX7_senderGoes 17 = .ok (.iconst 1, 1) := by decide +kernel
theorem dX7_senderGoes_18 : decode cX7_senderGoes 18 = .ok (.iaload, 1) := by decide +kernel
theorem dX7_senderGoes_19 : decode cX7_senderGoes 19 = .ok (.if_icmp .ge 22, 3) := by decide +kernel
theorem dX7_senderGoes_22 : decode cX7_senderGoes 22 = .ok (.aload_n 0, 1) := by decide +kernel
theorem dX7_senderGoes_23 : decode cX7_senderGoes 23 = .ok (.iconst 0, 1) := by decide +kernel
theorem dX7_senderGoes_24 : decode cX7_senderGoes 24 = .ok (.aload_n 0, 1) := by decide +kernel
theorem dX7_senderGoes_25 : decode cX7_senderGoes 25 = .ok (.getfield 229, 3) := by decide +kernel
theorem dX7_senderGoes_28 : decode cX7_senderGoes 28 = .ok (.invokevirtual 225, 3) := by decide +kernel
theorem dX7_senderGoes_31 : decode cX7_senderGoes 31 = .ok (.aload_n 0, 1) := by decide +kernel
theorem dX7_senderGoes_32 : decode cX7_senderGoes 32 = .ok (.dup, 1) := by decide +kernel
theorem dX7_senderGoes_33 : decode cX7_senderGoes 33 = .ok (.getfield 229, 3) := by decide +kernel
theorem dX7_senderGoes_36 : decode cX7_senderGoes 36 = .ok (.iconst 1, 1) := by decide +kernel
theorem dX7_senderGoes_37 : decode cX7_senderGoes 37 = .ok (.iadd, 1) := by decide +kernel
theorem dX7_senderGoes_38 : decode cX7_senderGoes 38 = .ok (.putfield 229, 3) := by decide +kernel
theorem dX7_senderGoes_41 : decode cX7_senderGoes 41 = .ok (.return_, 1) := by decide +kernel
theorem dX7_senderGoes_42 : decode cX7_senderGoes 42 = .ok (.aload_n 0, 1) := by decide +kernel
theorem dX7_senderGoes_43 : decode cX7_senderGoes 43 = .ok (.getfield 24, 3) := by decide +kernel
theorem dX7_senderGoes_46 : decode cX7_senderGoes 46 = .ok (.iconst 0, 1) := by decide +kernel
theorem dX7_senderGoes_47 : decode cX7_senderGoes 47 = .ok (.iaload, 1) := by decide +kernel
theorem dX7_senderGoes_48 : decode cX7_senderGoes 48 = .ok (.iconst 1, 1) := by decide +kernel
theorem dX7_senderGoes_49 : decode cX7_senderGoes 49 = .ok (.if_icmp .ne 60, 3) := by decide +kernel
theorem dX7_senderGoes_52 : decode cX7_senderGoes 52 = .ok (.aload_n 0, 1) := by decide +kernel
theorem dX7_senderGoes_53 : decode cX7_senderGoes 53 = .ok (.getfield 229, 3) := by decide +kernel
theorem dX7_senderGoes_56 : decode cX7_senderGoes 56 = .ok (.aload_n 0, 1) := by decide +kernel
theorem dX7_senderGoes_57 : decode cX7_senderGoes 57 = .ok (.getfield 24, 3) := by decide +kernel
theorem dX7_senderGoes_60 : decode cX7_senderGoes 60 = .ok (.iconst 1, 1) := by decide +kernel
theorem dX7_senderGoes_61 : decode cX7_senderGoes 61 = .ok (.iaload, 1) := by decide +kernel
theorem dX7_senderGoes_62 : decode cX7_senderGoes 62 = .ok (.if_icmp .ge 46, 3) := by decide +kernel
theorem dX7_senderGoes_65 : decode cX7_senderGoes 65 = .ok (.aload_n 0, 1) := by decide +kernel
theorem dX7_senderGoes_66 : decode cX7_senderGoes 66 = .ok (.getfield 232, 3) := by decide +kernel
theorem dX7_senderGoes_69 : decode cX7_senderGoes 69 = .ok (.iconst (-1), 1) := by decide +kernel
theorem dX7_senderGoes_70 : decode cX7_senderGoes 70 = .ok (.if_icmp .eq 21, 3) := by decide +kernel
theorem dX7_senderGoes_73 : decode cX7_senderGoes 73 = .ok (.aload_n 0, 1) := by decide +kernel
theorem dX7_senderGoes_74 : decode cX7_senderGoes 74 = .ok (.getfield 207, 3) := by decide +kernel
theorem dX7_senderGoes_77 : decode cX7_senderGoes 77 = .ok (.aload_n 0, 1) := by decide +kernel
theorem dX7_senderGoes_78 : decode cX7_senderGoes 78 = .ok (.getfield 232, 3) := by decide +kernel
theorem dX7_senderGoes_81 : decode cX7_senderGoes 81 = .ok (.isub, 1) := by decide +kernel
theorem dX7_senderGoes_82 : decode cX7_senderGoes 82 = .ok (.aload_n 0, 1) := by decide +kernel
theorem dX7_senderGoes_83 : decode cX7_senderGoes 83 = .ok (.getfield 24, 3) := by decide +kernel
theorem dX7_senderGoes_86 : decode cX7_senderGoes 86 = .ok (.iconst 4, 1) := by decide +kernel
theorem dX7_senderGoes_87 : decode cX7_senderGoes 87 = .ok (.iaload, 1) := by decide +kernel
theorem dX7_senderGoes_88 : decode cX7_senderGoes 88 = .ok (.if_icmp .lt 20, 3) := by decide +kernel
theorem dX7_senderGoes_91 : decode cX7_senderGoes 91 = .ok (.aload_n 0, 1) := by decide +kernel
theorem dX7_senderGoes_92 : decode cX7_senderGoes 92 = .ok (.iconst 0, 1) := by decide +kernel
theorem dX7_senderGoes_93 : decode cX7_senderGoes 93 = .ok (.aload_n 0, 1) := by decide +kernel
theorem dX7_senderGoes_94 : decode cX7_senderGoes 94 = .ok (.getfield 229, 3) := by decide +kernel
theorem dX7_senderGoes_97 : decode cX7_senderGoes 97 = .ok (.invokevirtual 225, 3) := by decide +kernel
theorem dX7_senderGoes_100 : decode cX7_senderGoes 100 = .ok (.aload_n 0, 1) := by decide +kernel
theorem dX7_senderGoes_101 : decode cX7_senderGoes 101 = .ok (.aload_n 0, 1) := by decide +kernel
theorem dX7_senderGoes_102 : decode cX7_senderGoes 102 = .ok (.getfield 207, 3) := by decide +kernel
theorem dX7_senderGoes_105 : decode cX7_senderGoes 105 = .ok (.putfield 232, 3) := by decide +kernel
theorem dX7_senderGoes_108 : decode cX7_senderGoes 108 = .ok (.return_, 1) := by decide +kernel
theorem dX7_senderGoes_109 : decode cX7_senderGoes 109 = .ok (.aload_n 0, 1) := by decide +kernel
theorem dX7_senderGoes_110 : decode cX7_senderGoes 110 = .ok (.getfield 229, 3) := by decide +kernel
theorem dX7_senderGoes_113 : decode cX7_senderGoes 113 = .ok (.aload_n 0, 1) := by decide +kernel
theorem dX7_senderGoes_114 : decode cX7_senderGoes 114 = .ok (.getfield 235, 3) := by decide +kernel
theorem dX7_senderGoes_117 : decode cX7_senderGoes 117 = .ok (.if_icmp .ge 37, 3) := by decide +kernel
theorem dX7_senderGoes_120 : decode cX7_senderGoes 120 = .ok (.aload_n 0, 1) := by decide +kernel
theorem dX7_senderGoes_121 : decode cX7_senderGoes 121 = .ok (.getfield 207, 3) := by decide +kernel
theorem dX7_senderGoes_124 : decode cX7_senderGoes 124 = .ok (.aload_n 0, 1) := by decide +kernel
theorem dX7_senderGoes_125 : decode cX7_senderGoes 125 = .ok (.getfield 232, 3) := by decide +kernel
theorem dX7_senderGoes_128 : decode cX7_senderGoes 128 = .ok (.isub, 1) := by decide +kernel
theorem dX7_senderGoes_129 : decode cX7_senderGoes 129 = .ok (.aload_n 0, 1) := by decide +kernel
theorem dX7_senderGoes_130 : decode cX7_senderGoes 130 = .ok (.getfield 24, 3) := by decide +kernel
theorem dX7_senderGoes_133 : decode cX7_senderGoes 133 = .ok (.iconst 4, 1) := by decide +kernel
theorem dX7_senderGoes_134 : decode cX7_senderGoes 134 = .ok (.iaload, 1) := by decide +kernel
theorem dX7_senderGoes_135 : decode cX7_senderGoes 135 = .ok (.if_icmp .lt 19, 3) := by decide +kernel
theorem dX7_senderGoes_138 : decode cX7_senderGoes 138 = .ok (.aload_n 0, 1) := by decide +kernel
theorem dX7_senderGoes_139 : decode cX7_senderGoes 139 = .ok (.aload_n 0, 1) := by decide +kernel
theorem dX7_senderGoes_140 : decode cX7_senderGoes 140 = .ok (.getfield 207, 3) := by decide +kernel
theorem dX7_senderGoes_143 : decode cX7_senderGoes 143 = .ok (.putfield 232, 3) := by decide +kernel
theorem dX7_senderGoes_146 : decode cX7_senderGoes 146 = .ok (.aload_n 0, 1) := by decide +kernel
theorem dX7_senderGoes_147 : decode cX7_senderGoes 147 = .ok (.aload_n 0, 1) := by decide +kernel
theorem dX7_senderGoes_148 : decode cX7_senderGoes 148 = .ok (.getfield 229, 3) := by decide +kernel
theorem dX7_senderGoes_151 : decode cX7_senderGoes 151 = .ok (.putfield 235, 3) := by decide +kernel
theorem dX7_senderGoes_154 : decode cX7_senderGoes 154 = .ok (.aload_n 0, 1) := by decide +kernel
theorem dX7_senderGoes_155 : decode cX7_senderGoes 155 = .ok (.getfield 235, 3) := by decide +kernel
theorem dX7_senderGoes_158 : decode cX7_senderGoes 158 = .ok (.aload_n 0, 1) := by decide +kernel
theorem dX7_senderGoes_159 : decode cX7_senderGoes 159 = .ok (.getfield 229, 3) := by decide +kernel
theorem dX7_senderGoes_162 : decode cX7_senderGoes 162 = .ok (.aload_n 0, 1) := by decide +kernel
theorem dX7_senderGoes_163 : decode cX7_senderGoes 163 = .ok (.getfield 24, 3) := by decide +kernel
theorem dX7_senderGoes_166 : decode cX7_senderGoes 166 = .ok (.iconst 5, 1) := by decide +kernel
theorem dX7_senderGoes_167 : decode cX7_senderGoes 167 = .ok (.iaload, 1) := by decide +kernel
theorem dX7_senderGoes_168 : decode cX7_senderGoes 168 = .ok (.iadd, 1) := by decide +kernel
theorem dX7_senderGoes_169 : decode cX7_senderGoes 169 = .ok (.if_icmp .ge 61, 3) := by decide +kernel
theorem dX7_senderGoes_172 : decode cX7_senderGoes 172 = .ok (.aload_n 0, 1) := by decide +kernel
theorem dX7_senderGoes_173 : decode cX7_senderGoes 173 = .ok (.getfield 235, 3) := by decide +kernel
theorem dX7_senderGoes_176 : decode cX7_senderGoes 176 = .ok (.aload_n 0, 1) := by decide +kernel
theorem dX7_senderGoes_177 : decode cX7_senderGoes 177 = .ok (.getfield 24, 3) := by decide +kernel
theorem dX7_senderGoes_180 : decode cX7_senderGoes 180 = .ok (.iconst 1, 1) := by decide +kernel
theorem dX7_senderGoes_181 : decode cX7_senderGoes 181 = .ok (.iaload, 1) := by decide +kernel
theorem dX7_senderGoes_182 : decode cX7_senderGoes 182 = .ok (.if_icmp .ge 48, 3) := by decide +kernel
theorem dX7_senderGoes_185 : decode cX7_senderGoes 185 = .ok (.aload_n 0, 1) := by decide +kernel
theorem dX7_senderGoes_186 : decode cX7_senderGoes 186 = .ok (.iconst 0, 1) := by decide +kernel
theorem dX7_senderGoes_187 : decode cX7_senderGoes 187 = .ok (.aload_n 0, 1) := by decide +kernel
theorem dX7_senderGoes_188 : decode cX7_senderGoes 188 = .ok (.getfield 235, 3) := by decide +kernel
theorem dX7_senderGoes_191 : decode cX7_senderGoes 191 = .ok (.invokevirtual 225, 3) := by decide +kernel
theorem dX7_senderGoes_194 : decode cX7_senderGoes 194 = .ok (.aload_n 0, 1) := by decide +kernel
theorem dX7_senderGoes_195 : decode cX7_senderGoes 195 = .ok (.aload_n 0, 1) := by decide +kernel
theorem dX7_senderGoes_196 : decode cX7_senderGoes 196 = .ok (.getfield 229, 3) := by decide +kernel
theorem dX7_senderGoes_199 : decode cX7_senderGoes 199 = .ok (.aload_n 0, 1) := by decide +kernel
theorem dX7_senderGoes_200 : decode cX7_senderGoes 200 = .ok (.getfield 235, 3) := by decide +kernel
theorem dX7_senderGoes_203 : decode cX7_senderGoes 203 = .ok (.if_icmp .ne 10, 3) := by decide +kernel
theorem dX7_senderGoes_206 : decode cX7_senderGoes 206 = .ok (.aload_n 0, 1) := by decide +kernel
theorem dX7_senderGoes_207 : decode cX7_senderGoes 207 = .ok (.getfield 207, 3) := by decide +kernel
theorem dX7_senderGoes_210 : decode cX7_senderGoes 210 = .ok (.goto 7, 3) := by decide +kernel
theorem dX7_senderGoes_213 : decode cX7_senderGoes 213 = .ok (.aload_n 0, 1) := by decide +kernel
theorem dX7_senderGoes_214 : decode cX7_senderGoes 214 = .ok (.getfield 232, 3) := by decide +kernel
theorem dX7_senderGoes_217 : decode cX7_senderGoes 217 = .ok (.putfield 232, 3) := by decide +kernel
theorem dX7_senderGoes_220 : decode cX7_senderGoes 220 = .ok (.aload_n 0, 1) := by decide +kernel
theorem dX7_senderGoes_221 : decode cX7_senderGoes 221 = .ok (.dup, 1) := by decide +kernel
theorem dX7_senderGoes_222 : decode cX7_senderGoes 222 = .ok (.getfield 235, 3) := by decide +kernel
theorem dX7_senderGoes_225 : decode cX7_senderGoes 225 = .ok (.iconst 1, 1) := by decide +kernel
theorem dX7_senderGoes_226 : decode cX7_senderGoes 226 = .ok (.iadd, 1) := by decide +kernel
theorem dX7_senderGoes_227 : decode cX7_senderGoes 227 = .ok (.putfield 235, 3) := by decide +kernel
theorem dX7_senderGoes_230 : decode cX7_senderGoes 230 = .ok (.return_, 1) := by decide +kernel
theorem dX7_isQuiet_0 : decode cX7_isQuiet 0 = .ok (.aload_n 0, 1) := by decide +kernel
theorem dX7_isQuiet_1 : decode cX7_isQuiet 1 = .ok (.getfield 229, 3) := by decide +kernel
theorem dX7_isQuiet_4 : decode cX7_isQuiet 4 = .ok (.aload_n 0, 1) := by decide +kernel
theorem dX7_isQuiet_5 : decode cX7_isQuiet 5 = .ok (.getfield 24, 3) := by decide +kernel
theorem dX7_isQuiet_8 : decode cX7_isQuiet 8 = .ok (.iconst 1, 1) := by decide +kernel
theorem dX7_isQuiet_9 : decode cX7_isQuiet 9 = .ok (.iaload, 1) := by decide +kernel
theorem dX7_isQuiet_10 : decode cX7_isQuiet 10 = .ok (.if_icmp .ne 7, 3) := by decide +kernel
theorem dX7_isQuiet_13 : decode cX7_isQuiet 13 = .ok (.iconst 1, 1) := by decide +kernel
theorem dX7_isQuiet_14 : decode cX7_isQuiet 14 = .ok (.goto 4, 3) := by decide +kernel
theorem dX7_isQuiet_17 : decode cX7_isQuiet 17 = .ok (.iconst 0, 1) := by decide +kernel
theorem dX7_isQuiet_18 : decode cX7_isQuiet 18 = .ok (.istore_n 1, 1) := by decide +kernel
theorem dX7_isQuiet_19 : decode cX7_isQuiet 19 = .ok (.iconst 0, 1) := by decide +kernel
theorem dX7_isQuiet_20 : decode cX7_isQuiet 20 = .ok (.istore_n 2, 1) := by decide +kernel
theorem dX7_isQuiet_21 : decode cX7_isQuiet 21 = .ok (.iload_n 2, 1) := by decide +kernel
theorem dX7_isQuiet_22 : decode cX7_isQuiet 22 = .ok (.aload_n 0, 1) := by decide +kernel
theorem dX7_isQuiet_23 : decode cX7_isQuiet 23 = .ok (.getfield 204, 3) := by decide +kernel
theorem dX7_isQuiet_26 : decode cX7_isQuiet 26 = .ok (.if_icmp .ge 45, 3) := by decide +kernel
theorem dX7_isQuiet_29 : decode cX7_isQuiet 29 = .ok (.iload_n 1, 1) := by decide +kernel
theorem dX7_isQuiet_30 : decode cX7_isQuiet 30 = .ok (.ifCond .eq 33, 3) := by decide +kernel
theorem dX7_isQuiet_33 : decode cX7_isQuiet 33 = .ok (.aload_n 0, 1) := by decide +kernel
theorem dX7_isQuiet_34 : decode cX7_isQuiet 34 = .ok (.getfield 39, 3) := by decide +kernel
theorem dX7_isQuiet_37 : decode cX7_isQuiet 37 = .ok (.iload_n 2, 1) := by decide +kernel
theorem dX7_isQuiet_38 : decode cX7_isQuiet 38 = .ok (.iaload, 1) := by decide +kernel
theorem dX7_isQuiet_39 : decode cX7_isQuiet 39 = .ok (.aload_n 0, 1) := by decide +kernel
theorem dX7_isQuiet_40 : decode cX7_isQuiet 40 = .ok (.getfield 207, 3) := by decide +kernel
theorem dX7_isQuiet_43 : decode cX7_isQuiet 43 = .ok (.if_icmp .gt 20, 3) := by decide +kernel
theorem dX7_isQuiet_46 : decode cX7_isQuiet 46 = .ok (.aload_n 0, 1) := by decide +kernel
theorem dX7_isQuiet_47 : decode cX7_isQuiet 47 = .ok (.getfield 42, 3) := by decide +kernel
theorem dX7_isQuiet_50 : decode cX7_isQuiet 50 = .ok (.iload_n 2, 1) := by decide +kernel
theorem dX7_isQuiet_51 : decode cX7_isQuiet 51 = .ok (.iaload, 1) := by decide +kernel
theorem dX7_isQuiet_52 : decode cX7_isQuiet 52 = .ok (.aload_n 0, 1) := by decide +kernel
theorem dX7_isQuiet_53 : decode cX7_isQuiet 53 = .ok (.getfield 207, 3) := by decide +kernel
theorem dX7_isQuiet_56 : decode cX7_isQuiet 56 = .ok (.if_icmp .gt 7, 3) := by decide +kernel
theorem dX7_isQuiet_59 : decode cX7_isQuiet 59 = .ok (.iconst 1, 1) := by decide +kernel
theorem dX7_isQuiet_60 : decode cX7_isQuiet 60 = .ok (.goto 4, 3) := by decide +kernel
theorem dX7_isQuiet_63 : decode cX7_isQuiet 63 = .ok (.iconst 0, 1) := by decide +kernel
theorem dX7_isQuiet_64 : decode cX7_isQuiet 64 = .ok (.istore_n 1, 1) := by decide +kernel
theorem dX7_isQuiet_65 : decode cX7_isQuiet 65 = .ok (.iinc 2 1, 3) := by decide +kernel
theorem dX7_isQuiet_68 : decode cX7_isQuiet 68 = .ok (.goto (-47), 3) := by decide +kernel
theorem dX7_isQuiet_71 : decode cX7_isQuiet 71 = .ok (.iload_n 1, 1) := by decide +kernel
theorem dX7_isQuiet_72 : decode cX7_isQuiet 72 = .ok (.ireturn, 1) := by decide +kernel
theorem dX7_runs_0 : decode cX7_runs 0 = .ok (.aload_n 0, 1) := by decide +kernel
theorem dX7_runs_1 : decode cX7_runs 1 = .ok (.aload_n 1, 1) := by decide +kernel
theorem dX7_runs_2 : decode cX7_runs 2 = .ok (.putfield 24, 3) := by decide +kernel
theorem dX7_runs_5 : decode cX7_runs 5 = .ok (.aload_n 0, 1) := by decide +kernel
theorem dX7_runs_6 : decode cX7_runs 6 = .ok (.iconst 0, 1) := by decide +kernel
theorem dX7_runs_7 : decode cX7_runs 7 = .ok (.putfield 204, 3) := by decide +kernel
theorem dX7_runs_10 : decode cX7_runs 10 = .ok (.aload_n 0, 1) := by decide +kernel
theorem dX7_runs_11 : decode cX7_runs 11 = .ok (.iconst 0, 1) := by decide +kernel
theorem dX7_runs_12 : decode cX7_runs 12 = .ok (.putfield 210, 3) := by decide +kernel
theorem dX7_runs_15 : decode cX7_runs 15 = .ok (.aload_n 0, 1) := by decide +kernel
theorem dX7_runs_16 : decode cX7_runs 16 = .ok (.iconst 0, 1) := by decide +kernel
theorem dX7_runs_17 : decode cX7_runs 17 = .ok (.putfield 213, 3) := by decide +kernel
theorem dX7_runs_20 : decode cX7_runs 20 = .ok (.aload_n 0, 1) := by decide +kernel
theorem dX7_runs_21 : decode cX7_runs 21 = .ok (.iconst (-1), 1) := by decide +kernel
theorem dX7_runs_22 : decode cX7_runs 22 = .ok (.putfield 216, 3) := by decide +kernel
theorem dX7_runs_25 : decode cX7_runs 25 = .ok (.aload_n 0, 1) := by decide +kernel
theorem dX7_runs_26 : decode cX7_runs 26 = .ok (.iconst 0, 1) := by decide +kernel
theorem dX7_runs_27 : decode cX7_runs 27 = .ok (.putfield 229, 3) := by decide +kernel
theorem dX7_runs_30 : decode cX7_runs 30 = .ok (.aload_n 0, 1) := by decide +kernel
theorem dX7_runs_31 : decode cX7_runs 31 = .ok (.iconst 0, 1) := by decide +kernel
theorem dX7_runs_32 : decode cX7_runs 32 = .ok (.putfield 235, 3) := by decide +kernel
theorem dX7_runs_35 : decode cX7_runs 35 = .ok (.aload_n 0, 1) := by decide +kernel
theorem dX7_runs_36 : decode cX7_runs 36 = .ok (.iconst (-1), 1) := by decide +kernel
theorem dX7_runs_37 : decode cX7_runs 37 = .ok (.putfield 232, 3) := by decide +kernel
theorem dX7_runs_40 : decode cX7_runs 40 = .ok (.aload_n 0, 1) := by decide +kernel
theorem dX7_runs_41 : decode cX7_runs 41 = .ok (.iconst 0, 1) := by decide +kernel
theorem dX7_runs_42 : decode cX7_runs 42 = .ok (.putfield 222, 3) := by decide +kernel
theorem dX7_runs_45 : decode cX7_runs 45 = .ok (.iconst 0, 1) := by decide +kernel
theorem dX7_runs_46 : decode cX7_runs 46 = .ok (.istore_n 2, 1) := by decide +kernel
theorem dX7_runs_47 : decode cX7_runs 47 = .ok (.iload_n 2, 1) := by decide +kernel
theorem dX7_runs_48 : decode cX7_runs 48 = .ok (.sipush 144, 3) := by decide +kernel
theorem dX7_runs_51 : decode cX7_runs 51 = .ok (.if_icmp .ge 16, 3) := by decide +kernel
theorem dX7_runs_54 : decode cX7_runs 54 = .ok (.aload_n 0, 1) := by decide +kernel
theorem dX7_runs_55 : decode cX7_runs 55 = .ok (.getfield 48, 3) := by decide +kernel
theorem dX7_runs_58 : decode cX7_runs 58 = .ok (.iload_n 2, 1) := by decide +kernel
theorem dX7_runs_59 : decode cX7_runs 59 = .ok (.iconst 0, 1) := by decide +kernel
theorem dX7_runs_60 : decode cX7_runs 60 = .ok (.bastore, 1) := by decide +kernel
theorem dX7_runs_61 : decode cX7_runs 61 = .ok (.iinc 2 1, 3) := by decide +kernel
theorem dX7_runs_64 : decode cX7_runs 64 = .ok (.goto (-17), 3) := by decide +kernel
theorem dX7_runs_67 : decode cX7_runs 67 = .ok (.aload_n 0, 1) := by decide +kernel
theorem dX7_runs_68 : decode cX7_runs 68 = .ok (.iconst 0, 1) := by decide +kernel
theorem dX7_runs_69 : decode cX7_runs 69 = .ok (.putfield 238, 3) := by decide +kernel
theorem dX7_runs_72 : decode cX7_runs 72 = .ok (.aload_n 0, 1) := by decide +kernel
theorem dX7_runs_73 : decode cX7_runs 73 = .ok (.iconst 0, 1) := by decide +kernel
theorem dX7_runs_74 : decode cX7_runs 74 = .ok (.putfield 207, 3) := by decide +kernel
theorem dX7_runs_77 : decode cX7_runs 77 = .ok (.aload_n 0, 1) := by decide +kernel
theorem dX7_runs_78 : decode cX7_runs 78 = .ok (.getfield 207, 3) := by decide +kernel
theorem dX7_runs_81 : decode cX7_runs 81 = .ok (.aload_n 1, 1) := by decide +kernel
theorem dX7_runs_82 : decode cX7_runs 82 = .ok (.iconst 2, 1) := by decide +kernel
theorem dX7_runs_83 : decode cX7_runs 83 = .ok (.iaload, 1) := by decide +kernel
theorem dX7_runs_84 : decode cX7_runs 84 = .ok (.if_icmp .ge 116, 3) := by decide +kernel
theorem dX7_runs_87 : decode cX7_runs 87 = .ok (.aload_n 0, 1) := by decide +kernel
theorem dX7_runs_88 : decode cX7_runs 88 = .ok (.getfield 238, 3) := by decide +kernel
theorem dX7_runs_91 : decode cX7_runs 91 = .ok (.ifCond .ne 109, 3) := by decide +kernel
theorem dX7_runs_94 : decode cX7_runs 94 = .ok (.aload_n 0, 1) := by decide +kernel
theorem dX7_runs_95 : decode cX7_runs 95 = .ok (.getfield 204, 3) := by decide +kernel
theorem dX7_runs_98 : decode cX7_runs 98 = .ok (.istore_n 2, 1) := by decide +kernel
theorem dX7_runs_99 : decode cX7_runs 99 = .ok (.iconst 0, 1) := by decide +kernel
theorem dX7_runs_100 : decode cX7_runs 100 = .ok (.istore_n 3, 1) := by decide +kernel
theorem dX7_runs_101 : decode cX7_runs 101 = .ok (.iload_n 3, 1) := by decide +kernel
theorem dX7_runs_102 : decode cX7_runs 102 = .ok (.iload_n 2, 1) := by decide +kernel
theorem dX7_runs_103 : decode cX7_runs 103 = .ok (.if_icmp .ge 40, 3) := by decide +kernel
theorem dX7_runs_106 : decode cX7_runs 106 = .ok (.aload_n 0, 1) := by decide +kernel
theorem dX7_runs_107 : decode cX7_runs 107 = .ok (.getfield 39, 3) := by decide +kernel
theorem dX7_runs_110 : decode cX7_runs 110 = .ok (.iload_n 3, 1) := by decide +kernel
theorem dX7_runs_111 : decode cX7_runs 111 = .ok (.iaload, 1) := by decide +kernel
theorem dX7_runs_112 : decode cX7_runs 112 = .ok (.aload_n 0, 1) := by decide +kernel
theorem dX7_runs_113 : decode cX7_runs 113 = .ok (.getfield 207, 3) := by decide +kernel
theorem dX7_runs_116 : decode cX7_runs 116 = .ok (.if_icmp .eq 16, 3) := by decide +kernel
theorem dX7_runs_119 : decode cX7_runs 119 = .ok (.aload_n 0, 1) := by decide +kernel
theorem dX7_runs_120 : decode cX7_runs 120 = .ok (.getfield 42, 3) := by decide +kernel
theorem dX7_runs_123 : decode cX7_runs 123 = .ok (.iload_n 3, 1) := by decide +kernel
theorem dX7_runs_124 : decode cX7_runs 124 = .ok (.iaload, 1) := by decide +kernel
theorem dX7_runs_125 : decode cX7_runs 125 = .ok (.aload_n 0, 1) := by decide +kernel
theorem dX7_runs_126 : decode cX7_runs 126 = .ok (.getfield 207, 3) := by decide +kernel
theorem dX7_runs_129 : decode cX7_runs 129 = .ok (.if_icmp .ne 8, 3) := by decide +kernel
theorem dX7_runs_132 : decode cX7_runs 132 = .ok (.aload_n 0, 1) := by decide +kernel
theorem dX7_runs_133 : decode cX7_runs 133 = .ok (.iload_n 3, 1) := by decide +kernel
theorem dX7_runs_134 : decode cX7_runs 134 = .ok (.invokevirtual 242, 3) := by decide +kernel
theorem dX7_runs_137 : decode cX7_runs 137 = .ok (.iinc 3 1, 3) := by decide +kernel
theorem dX7_runs_140 : decode cX7_runs 140 = .ok (.goto (-39), 3) := by decide +kernel
theorem dX7_runs_143 : decode cX7_runs 143 = .ok (.aload_n 0, 1) := by decide +kernel
theorem dX7_runs_144 : decode cX7_runs 144 = .ok (.invokevirtual 245, 3) := by decide +kernel
theorem dX7_runs_147 : decode cX7_runs 147 = .ok (.aload_n 0, 1) := by decide +kernel
theorem dX7_runs_148 : decode cX7_runs 148 = .ok (.getfield 48, 3) := by decide +kernel
theorem dX7_runs_151 : decode cX7_runs 151 = .ok (.bipush 16, 2) := by decide +kernel
theorem dX7_runs_153 : decode cX7_runs 153 = .ok (.aload_n 0, 1) := by decide +kernel
theorem dX7_runs_154 : decode cX7_runs 154 = .ok (.getfield 229, 3) := by decide +kernel
theorem dX7_runs_157 : decode cX7_runs 157 = .ok (.imul, 1) := by decide +kernel
theorem dX7_runs_158 : decode cX7_runs 158 = .ok (.aload_n 0, 1) := by decide +kernel
theorem dX7_runs_159 : decode cX7_runs 159 = .ok (.getfield 210, 3) := by decide +kernel
theorem dX7_runs_162 : decode cX7_runs 162 = .ok (.bipush 15, 2) := by decide +kernel
theorem dX7_runs_164 : decode cX7_runs 164 = .ok (.if_icmp .le 8, 3) := by decide +kernel
theorem dX7_runs_167 : decode cX7_runs 167 = .ok (.bipush 15, 2) := by decide +kernel
theorem dX7_runs_169 : decode cX7_runs 169 = .ok (.goto 7, 3) := by decide +kernel
theorem dX7_runs_172 : decode cX7_runs 172 = .ok (.aload_n 0, 1) := by decide +kernel
theorem dX7_runs_173 : decode cX7_runs 173 = .ok (.getfield 210, 3) := by decide +kernel
theorem dX7_runs_176 : decode cX7_runs 176 = .ok (.iadd, 1) := by decide +kernel
theorem dX7_runs_177 : decode cX7_runs 177 = .ok (.iconst 1, 1) := by decide +kernel
theorem dX7_runs_178 : decode cX7_runs 178 = .ok (.bastore, 1) := by decide +kernel
theorem dX7_runs_179 : decode cX7_runs 179 = .ok (.aload_n 0, 1) := by decide +kernel
theorem dX7_runs_180 : decode cX7_runs 180 = .ok (.aload_n 0, 1) := by decide +kernel
theorem dX7_runs_181 : decode cX7_runs 181 = .ok (.invokevirtual 248, 3) := by decide +kernel
theorem dX7_runs_184 : decode cX7_runs 184 = .ok (.putfield 238, 3) := by decide +kernel
theorem dX7_runs_187 : decode cX7_runs 187 = .ok (.aload_n 0, 1) := by decide +kernel
theorem dX7_runs_188 : decode cX7_runs 188 = .ok (.dup, 1) := by decide +kernel
theorem dX7_runs_189 : decode cX7_runs 189 = .ok (.getfield 207, 3) := by decide +kernel
theorem dX7_runs_192 : decode cX7_runs 192 = .ok (.iconst 1, 1) := by decide +kernel
theorem dX7_runs_193 : decode cX7_runs 193 = .ok (.iadd, 1) := by decide +kernel
theorem dX7_runs_194 : decode cX7_runs 194 = .ok (.putfield 207, 3) := by decide +kernel
theorem dX7_runs_197 : decode cX7_runs 197 = .ok (.goto (-120), 3) := by decide +kernel
theorem dX7_runs_200 : decode cX7_runs 200 = .ok (.return_, 1) := by decide +kernel
theorem dX7_handles_0 : decode cX7_handles 0 = .ok (.aload_n 0, 1) := by decide +kernel
theorem dX7_handles_1 : decode cX7_handles 1 = .ok (.getfield 33, 3) := by decide +kernel
theorem dX7_handles_4 : decode cX7_handles 4 = .ok (.iload_n 1, 1) := by decide +kernel
theorem dX7_handles_5 : decode cX7_handles 5 = .ok (.iaload, 1) := by decide +kernel
theorem dX7_handles_6 : decode cX7_handles 6 = .ok (.ifCond .ne 16, 3) := by decide +kernel
theorem dX7_handles_9 : decode cX7_handles 9 = .ok (.aload_n 0, 1) := by decide +kernel
theorem dX7_handles_10 : decode cX7_handles 10 = .ok (.aload_n 0, 1) := by decide +kernel
theorem dX7_handles_11 : decode cX7_handles 11 = .ok (.getfield 36, 3) := by decide +kernel
theorem dX7_handles_14 : decode cX7_handles 14 = .ok (.iload_n 1, 1) := by decide +kernel
theorem dX7_handles_15 : decode cX7_handles 15 = .ok (.iaload, 1) := by decide +kernel
theorem dX7_handles_16 : decode cX7_handles 16 = .ok (.invokevirtual 251, 3) := by decide +kernel
theorem dX7_handles_19 : decode cX7_handles 19 = .ok (.goto 13, 3) := by decide +kernel
theorem dX7_handles_22 : decode cX7_handles 22 = .ok (.aload_n 0, 1) := by decide +kernel
theorem dX7_handles_23 : decode cX7_handles 23 = .ok (.aload_n 0, 1) := by decide +kernel
theorem dX7_handles_24 : decode cX7_handles 24 = .ok (.getfield 36, 3) := by decide +kernel
theorem dX7_handles_27 : decode cX7_handles 27 = .ok (.iload_n 1, 1) := by decide +kernel
theorem dX7_handles_28 : decode cX7_handles 28 = .ok (.iaload, 1) := by decide +kernel
theorem dX7_handles_29 : decode cX7_handles 29 = .ok (.invokevirtual 254, 3) := by decide +kernel
theorem dX7_handles_32 : decode cX7_handles 32 = .ok (.return_, 1) := by decide +kernel
theorem dX7_isBroken_0 : decode cX7_isBroken 0 = .ok (.iload_n 1, 1) := by decide +kernel
theorem dX7_isBroken_1 : decode cX7_isBroken 1 = .ok (.ifCond .ne 17, 3) := by decide +kernel
theorem dX7_isBroken_4 : decode cX7_isBroken 4 = .ok (.aload_n 0, 1) := by decide +kernel
theorem dX7_isBroken_5 : decode cX7_isBroken 5 = .ok (.getfield 216, 3) := by decide +kernel
theorem dX7_isBroken_8 : decode cX7_isBroken 8 = .ok (.iconst (-1), 1) := by decide +kernel
theorem dX7_isBroken_9 : decode cX7_isBroken 9 = .ok (.if_icmp .ne 7, 3) := by decide +kernel
theorem dX7_isBroken_12 : decode cX7_isBroken 12 = .ok (.iconst 1, 1) := by decide +kernel
theorem dX7_isBroken_13 : decode cX7_isBroken 13 = .ok (.goto 4, 3) := by decide +kernel
theorem dX7_isBroken_16 : decode cX7_isBroken 16 = .ok (.iconst 0, 1) := by decide +kernel
theorem dX7_isBroken_17 : decode cX7_isBroken 17 = .ok (.ireturn, 1) := by decide +kernel
theorem dX7_isBroken_18 : decode cX7_isBroken 18 = .ok (.iload_n 1, 1) := by decide +kernel
theorem dX7_isBroken_19 : decode cX7_isBroken 19 = .ok (.iconst 3, 1) := by decide +kernel
theorem dX7_isBroken_20 : decode cX7_isBroken 20 = .ok (.if_icmp .ne 31, 3) := by decide +kernel
theorem dX7_isBroken_23 : decode cX7_isBroken 23 = .ok (.aload_n 0, 1) := by decide +kernel
theorem dX7_isBroken_24 : decode cX7_isBroken 24 = .ok (.getfield 216, 3) := by decide +kernel
theorem dX7_isBroken_27 : decode cX7_isBroken 27 = .ok (.iconst (-1), 1) := by decide +kernel
theorem dX7_isBroken_28 : decode cX7_isBroken 28 = .ok (.if_icmp .eq 17, 3) := by decide +kernel
theorem dX7_isBroken_31 : decode cX7_isBroken 31 = .ok (.aload_n 0, 1) := by decide +kernel
theorem dX7_isBroken_32 : decode cX7_isBroken 32 = .ok (.getfield 216, 3) := by decide +kernel
theorem dX7_isBroken_35 : decode cX7_isBroken 35 = .ok (.aload_n 0, 1) := by decide +kernel
theorem dX7_isBroken_36 : decode cX7_isBroken 36 = .ok (.getfield 24, 3) := by decide +kernel
theorem dX7_isBroken_39 : decode cX7_isBroken 39 = .ok (.bipush 7, 2) := by decide +kernel
theorem dX7_isBroken_41 : decode cX7_isBroken 41 = .ok (.iaload, 1) := by decide +kernel
theorem dX7_isBroken_42 : decode cX7_isBroken 42 = .ok (.if_icmp .le 7, 3) := by decide +kernel
theorem dX7_isBroken_45 : decode cX7_isBroken 45 = .ok (.iconst 1, 1) := by decide +kernel
theorem dX7_isBroken_46 : decode cX7_isBroken 46 = .ok (.goto 4, 3) := by decide +kernel
theorem dX7_isBroken_49 : decode cX7_isBroken 49 = .ok (.iconst 0, 1) := by decide +kernel
theorem dX7_isBroken_50 : decode cX7_isBroken 50 = .ok (.ireturn, 1) := by decide +kernel
theorem dX7_isBroken_51 : decode cX7_isBroken 51 = .ok (.iconst 0, 1) := by decide +kernel
theorem dX7_isBroken_52 : decode cX7_isBroken 52 = .ok (.istore_n 2, 1) := by decide +kernel
theorem dX7_isBroken_53 : decode cX7_isBroken 53 = .ok (.iconst (-1), 1) := by decide +kernel
theorem dX7_isBroken_54 : decode cX7_isBroken 54 = .ok (.istore_n 3, 1) := by decide +kernel
theorem dX7_isBroken_55 : decode cX7_isBroken 55 = .ok (.iconst 0, 1) := by decide +kernel
theorem dX7_isBroken_56 : decode cX7_isBroken 56 = .ok (.istore 4, 2) := by decide +kernel
theorem dX7_isBroken_58 : decode cX7_isBroken 58 = .ok (.iconst 0, 1) := by decide +kernel
theorem dX7_isBroken_59 : decode cX7_isBroken 59 = .ok (.istore 5, 2) := by decide +kernel
theorem dX7_isBroken_61 : decode cX7_isBroken 61 = .ok (.iload 5, 2) := by decide +kernel
theorem dX7_isBroken_63 : decode cX7_isBroken 63 = .ok (.aload_n 0, 1) := by decide +kernel
theorem dX7_isBroken_64 : decode cX7_isBroken 64 = .ok (.getfield 210, 3) := by decide +kernel
theorem dX7_isBroken_67 : decode cX7_isBroken 67 = .ok (.if_icmp .ge 90, 3) := by decide +kernel
theorem dX7_isBroken_70 : decode cX7_isBroken 70 = .ok (.iload 4, 2) := by decide +kernel
theorem dX7_isBroken_72 : decode cX7_isBroken 72 = .ok (.ifCond .ne 37, 3) := by decide +kernel
theorem dX7_isBroken_75 : decode cX7_isBroken 75 = .ok (.iload_n 1, 1) := by decide +kernel
theorem dX7_isBroken_76 : decode cX7_isBroken 76 = .ok (.iconst 1, 1) := by decide +kernel
theorem dX7_isBroken_77 : decode cX7_isBroken 77 = .ok (.if_icmp .ne 21, 3) := by decide +kernel
theorem dX7_isBroken_80 : decode cX7_isBroken 80 = .ok (.iload_n 2, 1) := by decide +kernel
theorem dX7_isBroken_81 : decode cX7_isBroken 81 = .ok (.aload_n 0, 1) := by decide +kernel
theorem dX7_isBroken_82 : decode cX7_isBroken 82 = .ok (.getfield 45, 3) := by decide +kernel
theorem dX7_isBroken_85 : decode cX7_isBroken 85 = .ok (.iload 5, 2) := by decide +kernel
theorem dX7_isBroken_87 : decode cX7_isBroken 87 = .ok (.iaload, 1) := by decide +kernel
theorem dX7_isBroken_88 : decode cX7_isBroken 88 = .ok (.ishr, 1) := by decide +kernel
theorem dX7_isBroken_89 : decode cX7_isBroken 89 = .ok (.iconst 1, 1) := by decide +kernel
theorem dX7_isBroken_90 : decode cX7_isBroken 90 = .ok (.iand, 1) := by decide +kernel
theorem dX7_isBroken_91 : decode cX7_isBroken 91 = .ok (.iconst 1, 1) := by decide +kernel
theorem dX7_isBroken_92 : decode cX7_isBroken 92 = .ok (.if_icmp .ne 21, 3) := by decide +kernel
theorem dX7_isBroken_95 : decode cX7_isBroken 95 = .ok (.goto 14, 3) := by decide +kernel
theorem dX7_isBroken_98 : decode cX7_isBroken 98 = .ok (.aload_n 0, 1) := by decide +kernel
theorem dX7_isBroken_99 : decode cX7_isBroken 99 = .ok (.getfield 45, 3) := by decide +kernel
theorem dX7_isBroken_102 : decode cX7_isBroken 102 = .ok (.iload 5, 2) := by decide +kernel
theorem dX7_isBroken_104 : decode cX7_isBroken 104 = .ok (.iaload, 1) := by decide +kernel
theorem dX7_isBroken_105 : decode cX7_isBroken 105 = .ok (.iload_n 3, 1) := by decide +kernel
theorem dX7_isBroken_106 : decode cX7_isBroken 106 = .ok (.if_icmp .ge 7, 3) := by decide +kernel
theorem dX7_isBroken_109 : decode cX7_isBroken 109 = .ok (.iconst 1, 1) := by decide +kernel
theorem dX7_isBroken_110 : decode cX7_isBroken 110 = .ok (.goto 4, 3) := by decide +kernel
theorem dX7_isBroken_113 : decode cX7_isBroken 113 = .ok (.iconst 0, 1) := by decide +kernel
theorem dX7_isBroken_114 : decode cX7_isBroken 114 = .ok (.istore 4, 2) := by decide +kernel
theorem dX7_isBroken_116 : decode cX7_isBroken 116 = .ok (.iload_n 2, 1) := by decide +kernel
theorem dX7_isBroken_117 : decode cX7_isBroken 117 = .ok (.iconst 1, 1) := by decide +kernel
theorem dX7_isBroken_118 : decode cX7_isBroken 118 = .ok (.aload_n 0, 1) := by decide +kernel
theorem dX7_isBroken_119 : decode cX7_isBroken 119 = .ok (.getfield 45, 3) := by decide +kernel
theorem dX7_isBroken_122 : decode cX7_isBroken 122 = .ok (.iload 5, 2) := by decide +kernel
theorem dX7_isBroken_124 : decode cX7_isBroken 124 = .ok (.iaload, 1) := by decide +kernel
theorem dX7_isBroken_125 : decode cX7_isBroken 125 = .ok (.ishl, 1) := by decide +kernel
theorem dX7_isBroken_126 : decode cX7_isBroken 126 = .ok (.ior, 1) := by decide +kernel
theorem dX7_isBroken_127 : decode cX7_isBroken 127 = .ok (.istore_n 2, 1) := by decide +kernel
theorem dX7_isBroken_128 : decode cX7_isBroken 128 = .ok (.aload_n 0, 1) := by decide +kernel
theorem dX7_isBroken_129 : decode cX7_isBroken 129 = .ok (.getfield 45, 3) := by decide +kernel
theorem dX7_isBroken_132 : decode cX7_isBroken 132 = .ok (.iload 5, 2) := by decide +kernel
theorem dX7_isBroken_134 : decode cX7_isBroken 134 = .ok (.iaload, 1) := by decide +kernel
theorem dX7_isBroken_135 : decode cX7_isBroken 135 = .ok (.iload_n 3, 1) := by decide +kernel
theorem dX7_isBroken_136 : decode cX7_isBroken 136 = .ok (.if_icmp .le 13, 3) := by decide +kernel
theorem dX7_isBroken_139 : decode cX7_isBroken 139 = .ok (.aload_n 0, 1) := by decide +kernel
theorem dX7_isBroken_140 : decode cX7_isBroken 140 = .ok (.getfield 45, 3) := by decide +kernel
theorem dX7_isBroken_143 : decode cX7_isBroken 143 = .ok (.iload 5, 2) := by decide +kernel
theorem dX7_isBroken_145 : decode cX7_isBroken 145 = .ok (.iaload, 1) := by decide +kernel
theorem dX7_isBroken_146 : decode cX7_isBroken 146 = .ok (.goto 4, 3) := by decide +kernel
theorem dX7_isBroken_149 : decode cX7_isBroken 149 = .ok (.iload_n 3, 1) := by decide +kernel
theorem dX7_isBroken_150 : decode cX7_isBroken 150 = .ok (.istore_n 3, 1) := by decide +kernel
theorem dX7_isBroken_151 : decode cX7_isBroken 151 = .ok (.iinc 5 1, 3) := by decide +kernel
theorem dX7_isBroken_154 : decode cX7_isBroken 154 = .ok (.goto (-93), 3) := by decide +kernel
theorem dX7_isBroken_157 : decode cX7_isBroken 157 = .ok (.iload 4, 2) := by decide +kernel
theorem dX7_isBroken_159 : decode cX7_isBroken 159 = .ok (.ireturn, 1) := by decide +kernel
theorem dX7_breaksBy_0 : decode cX7_breaksBy 0 = .ok (.aload_n 0, 1) := by decide +kernel
theorem dX7_breaksBy_1 : decode cX7_breaksBy 1 = .ok (.aload_n 1, 1) := by decide +kernel
theorem dX7_breaksBy_2 : decode cX7_breaksBy 2 = .ok (.invokevirtual 257, 3) := by decide +kernel
theorem dX7_breaksBy_5 : decode cX7_breaksBy 5 = .ok (.aload_n 0, 1) := by decide +kernel
theorem dX7_breaksBy_6 : decode cX7_breaksBy 6 = .ok (.iload_n 2, 1) := by decide +kernel
theorem dX7_breaksBy_7 : decode cX7_breaksBy 7 = .ok (.invokevirtual 261, 3) := by decide +kernel
theorem dX7_breaksBy_10 : decode cX7_breaksBy 10 = .ok (.ireturn, 1) := by decide +kernel
theorem dX7_brokenOnes_0 : decode cX7_brokenOnes 0 = .ok (.iconst 0, 1) := by decide +kernel
theorem dX7_brokenOnes_1 : decode cX7_brokenOnes 1 = .ok (.istore_n 1, 1) := by decide +kernel
theorem dX7_brokenOnes_2 : decode cX7_brokenOnes 2 = .ok (.iconst 0, 1) := by decide +kernel
theorem dX7_brokenOnes_3 : decode cX7_brokenOnes 3 = .ok (.istore_n 2, 1) := by decide +kernel
theorem dX7_brokenOnes_4 : decode cX7_brokenOnes 4 = .ok (.iload_n 2, 1) := by decide +kernel
theorem dX7_brokenOnes_5 : decode cX7_brokenOnes 5 = .ok (.iconst 4, 1) := by decide +kernel
theorem dX7_brokenOnes_6 : decode cX7_brokenOnes 6 = .ok (.if_icmp .ge 27, 3) := by decide +kernel
theorem dX7_brokenOnes_9 : decode cX7_brokenOnes 9 = .ok (.iload_n 1, 1) := by decide +kernel
theorem dX7_brokenOnes_10 : decode cX7_brokenOnes 10 = .ok (.aload_n 0, 1) := by decide +kernel
theorem dX7_brokenOnes_11 : decode cX7_brokenOnes 11 = .ok (.iload_n 2, 1) := by decide +kernel
theorem dX7_brokenOnes_12 : decode cX7_brokenOnes 12 = .ok (.invokevirtual 261, 3) := by decide +kernel
theorem dX7_brokenOnes_15 : decode cX7_brokenOnes 15 = .ok (.ifCond .eq 9, 3) := by decide +kernel
theorem dX7_brokenOnes_18 : decode cX7_brokenOnes 18 = .ok (.iconst 1, 1) := by decide +kernel
theorem dX7_brokenOnes_19 : decode cX7_brokenOnes 19 = .ok (.iload_n 2, 1) := by decide +kernel
theorem dX7_brokenOnes_20 : decode cX7_brokenOnes 20 = .ok (.ishl, 1) := by decide +kernel
theorem dX7_brokenOnes_21 : decode cX7_brokenOnes 21 = .ok (.goto 4, 3) := by decide +kernel
theorem dX7_brokenOnes_24 : decode cX7_brokenOnes 24 = .ok (.iconst 0, 1) := by decide +kernel
theorem dX7_brokenOnes_25 : decode cX7_brokenOnes 25 = .ok (.ior, 1) := by decide +kernel
theorem dX7_brokenOnes_26 : decode cX7_brokenOnes 26 = .ok (.istore_n 1, 1) := by decide +kernel
theorem dX7_brokenOnes_27 : decode cX7_brokenOnes 27 = .ok (.iinc 2 1, 3) := by decide +kernel
theorem dX7_brokenOnes_30 : decode cX7_brokenOnes 30 = .ok (.goto (-26), 3) := by decide +kernel
theorem dX7_brokenOnes_33 : decode cX7_brokenOnes 33 = .ok (.iload_n 1, 1) := by decide +kernel
theorem dX7_brokenOnes_34 : decode cX7_brokenOnes 34 = .ok (.ireturn, 1) := by decide +kernel
theorem dX7_size_0 : decode cX7_size 0 = .ok (.aload_n 0, 1) := by decide +kernel
theorem dX7_size_1 : decode cX7_size 1 = .ok (.iconst 0, 1) := by decide +kernel
theorem dX7_size_2 : decode cX7_size 2 = .ok (.putfield 65, 3) := by decide +kernel
theorem dX7_size_5 : decode cX7_size 5 = .ok (.aload_n 0, 1) := by decide +kernel
theorem dX7_size_6 : decode cX7_size 6 = .ok (.iload_n 1, 1) := by decide +kernel
theorem dX7_size_7 : decode cX7_size 7 = .ok (.iconst 0, 1) := by decide +kernel
theorem dX7_size_8 : decode cX7_size 8 = .ok (.bipush 10, 2) := by decide +kernel
theorem dX7_size_10 : decode cX7_size 10 = .ok (.invokestatic 94, 3) := by decide +kernel
theorem dX7_size_13 : decode cX7_size 13 = .ok (.ifCond .ne 7, 3) := by decide +kernel
theorem dX7_size_16 : decode cX7_size 16 = .ok (.iconst 1, 1) := by decide +kernel
theorem dX7_size_17 : decode cX7_size 17 = .ok (.goto 4, 3) := by decide +kernel
theorem dX7_size_20 : decode cX7_size 20 = .ok (.iconst 0, 1) := by decide +kernel
theorem dX7_size_21 : decode cX7_size 21 = .ok (.iconst 1, 1) := by decide +kernel
theorem dX7_size_22 : decode cX7_size 22 = .ok (.invokevirtual 184, 3) := by decide +kernel
theorem dX7_size_25 : decode cX7_size 25 = .ok (.ifCond .eq 5, 3) := by decide +kernel
theorem dX7_size_28 : decode cX7_size 28 = .ok (.iconst 0, 1) := by decide +kernel
theorem dX7_size_29 : decode cX7_size 29 = .ok (.ireturn, 1) := by decide +kernel
theorem dX7_size_30 : decode cX7_size 30 = .ok (.iload_n 1, 1) := by decide +kernel
theorem dX7_size_31 : decode cX7_size 31 = .ok (.bipush 9, 2) := by decide +kernel
theorem dX7_size_33 : decode cX7_size 33 = .ok (.if_icmp .ge 12, 3) := by decide +kernel
theorem dX7_size_36 : decode cX7_size 36 = .ok (.aload_n 0, 1) := by decide +kernel
theorem dX7_size_37 : decode cX7_size 37 = .ok (.getfield 7, 3) := by decide +kernel
theorem dX7_size_40 : decode cX7_size 40 = .ok (.iload_n 1, 1) := by decide +kernel
theorem dX7_size_41 : decode cX7_size 41 = .ok (.iaload, 1) := by decide +kernel
theorem dX7_size_42 : decode cX7_size 42 = .ok (.goto 20, 3) := by decide +kernel
theorem dX7_size_45 : decode cX7_size 45 = .ok (.iload_n 1, 1) := by decide +kernel
theorem dX7_size_46 : decode cX7_size 46 = .ok (.bipush 9, 2) := by decide +kernel
theorem dX7_size_48 : decode cX7_size 48 = .ok (.if_icmp .ne 10, 3) := by decide +kernel
theorem dX7_size_51 : decode cX7_size 51 = .ok (.aload_n 0, 1) := by decide +kernel
theorem dX7_size_52 : decode cX7_size 52 = .ok (.getfield 198, 3) := by decide +kernel
theorem dX7_size_55 : decode cX7_size 55 = .ok (.goto 7, 3) := by decide +kernel
theorem dX7_size_58 : decode cX7_size 58 = .ok (.aload_n 0, 1) := by decide +kernel
theorem dX7_size_59 : decode cX7_size 59 = .ok (.invokevirtual 264, 3) := by decide +kernel
theorem dX7_size_62 : decode cX7_size 62 = .ok (.ireturn, 1) := by decide +kernel
theorem dX7_recordedMany_0 : decode cX7_recordedMany 0 = .ok (.iconst 0, 1) := by decide +kernel
theorem dX7_recordedMany_1 : decode cX7_recordedMany 1 = .ok (.istore_n 1, 1) := by decide +kernel
theorem dX7_recordedMany_2 : decode cX7_recordedMany 2 = .ok (.iconst 0, 1) := by decide +kernel
theorem dX7_recordedMany_3 : decode cX7_recordedMany 3 = .ok (.istore_n 2, 1) := by decide +kernel
theorem dX7_recordedMany_4 : decode cX7_recordedMany 4 = .ok (.iload_n 2, 1) := by decide +kernel
theorem dX7_recordedMany_5 : decode cX7_recordedMany 5 = .ok (.sipush 144, 3) := by decide +kernel
theorem dX7_recordedMany_8 : decode cX7_recordedMany 8 = .ok (.if_icmp .ge 21, 3) := by decide +kernel
theorem dX7_recordedMany_11 : decode cX7_recordedMany 11 = .ok (.iload_n 1, 1) := by decide +kernel
theorem dX7_recordedMany_12 : decode cX7_recordedMany 12 = .ok (.aload_n 0, 1) := by decide +kernel
theorem dX7_recordedMany_13 : decode cX7_recordedMany 13 = .ok (.getfield 7, 3) := by decide +kernel
theorem dX7_recordedMany_16 : decode cX7_recordedMany 16 = .ok (.bipush 39, 2) := by decide +kernel
theorem dX7_recordedMany_18 : decode cX7_recordedMany 18 = .ok (.iload_n 2, 1) := by decide +kernel
theorem dX7_recordedMany_19 : decode cX7_recordedMany 19 = .ok (.iadd, 1) := by decide +kernel
theorem dX7_recordedMany_20 : decode cX7_recordedMany 20 = .ok (.iaload, 1) := by decide +kernel
theorem dX7_recordedMany_21 : decode cX7_recordedMany 21 = .ok (.iadd, 1) := by decide +kernel
theorem dX7_recordedMany_22 : decode cX7_recordedMany 22 = .ok (.istore_n 1, 1) := by decide +kernel
theorem dX7_recordedMany_23 : decode cX7_recordedMany 23 = .ok (.iinc 2 1, 3) := by decide +kernel
theorem dX7_recordedMany_26 : decode cX7_recordedMany 26 = .ok (.goto (-22), 3) := by decide +kernel
theorem dX7_recordedMany_29 : decode cX7_recordedMany 29 = .ok (.iload_n 1, 1) := by decide +kernel
theorem dX7_recordedMany_30 : decode cX7_recordedMany 30 = .ok (.ireturn, 1) := by decide +kernel
theorem dX7_noFault_0 : decode cX7_noFault 0 = .ok (.aload_n 0, 1) := by decide +kernel
theorem dX7_noFault_1 : decode cX7_noFault 1 = .ok (.iconst 0, 1) := by decide +kernel
theorem dX7_noFault_2 : decode cX7_noFault 2 = .ok (.putfield 65, 3) := by decide +kernel
theorem dX7_noFault_5 : decode cX7_noFault 5 = .ok (.aload_n 0, 1) := by decide +kernel
theorem dX7_noFault_6 : decode cX7_noFault 6 = .ok (.iload_n 1, 1) := by decide +kernel
theorem dX7_noFault_7 : decode cX7_noFault 7 = .ok (.iconst 0, 1) := by decide +kernel
theorem dX7_noFault_8 : decode cX7_noFault 8 = .ok (.aload_n 0, 1) := by decide +kernel
theorem dX7_noFault_9 : decode cX7_noFault 9 = .ok (.getfield 7, 3) := by decide +kernel
theorem dX7_noFault_12 : decode cX7_noFault 12 = .ok (.bipush 8, 2) := by decide +kernel
theorem dX7_noFault_14 : decode cX7_noFault 14 = .ok (.iaload, 1) := by decide +kernel
theorem dX7_noFault_15 : decode cX7_noFault 15 = .ok (.iconst 1, 1) := by decide +kernel
theorem dX7_noFault_16 : decode cX7_noFault 16 = .ok (.isub, 1) := by decide +kernel
theorem dX7_noFault_17 : decode cX7_noFault 17 = .ok (.invokestatic 94, 3) := by decide +kernel
theorem dX7_noFault_20 : decode cX7_noFault 20 = .ok (.ifCond .ne 7, 3) := by decide +kernel
theorem dX7_noFault_23 : decode cX7_noFault 23 = .ok (.iconst 1, 1) := by decide +kernel
theorem dX7_noFault_24 : decode cX7_noFault 24 = .ok (.goto 4, 3) := by decide +kernel
theorem dX7_noFault_27 : decode cX7_noFault 27 = .ok (.iconst 0, 1) := by decide +kernel
theorem dX7_noFault_28 : decode cX7_noFault 28 = .ok (.iconst 1, 1) := by decide +kernel
theorem dX7_noFault_29 : decode cX7_noFault 29 = .ok (.invokevirtual 184, 3) := by decide +kernel
theorem dX7_noFault_32 : decode cX7_noFault 32 = .ok (.ireturn, 1) := by decide +kernel
theorem dX7_noPromise_0 : decode cX7_noPromise 0 = .ok (.aload_n 0, 1) := by decide +kernel
theorem dX7_noPromise_1 : decode cX7_noPromise 1 = .ok (.iload_n 1, 1) := by decide +kernel
theorem dX7_noPromise_2 : decode cX7_noPromise 2 = .ok (.iconst 0, 1) := by decide +kernel
theorem dX7_noPromise_3 : decode cX7_noPromise 3 = .ok (.iconst 3, 1) := by decide +kernel
theorem dX7_noPromise_4 : decode cX7_noPromise 4 = .ok (.invokestatic 94, 3) := by decide +kernel
theorem dX7_noPromise_7 : decode cX7_noPromise 7 = .ok (.ifCond .ne 7, 3) := by decide +kernel
theorem dX7_noPromise_10 : decode cX7_noPromise 10 = .ok (.iconst 1, 1) := by decide +kernel
theorem dX7_noPromise_11 : decode cX7_noPromise 11 = .ok (.goto 4, 3) := by decide +kernel
theorem dX7_noPromise_14 : decode cX7_noPromise 14 = .ok (.iconst 0, 1) := by decide +kernel
theorem dX7_noPromise_15 : decode cX7_noPromise 15 = .ok (.iload_n 2, 1) := by decide +kernel
theorem dX7_noPromise_16 : decode cX7_noPromise 16 = .ok (.invokevirtual 184, 3) := by decide +kernel
theorem dX7_noPromise_19 : decode cX7_noPromise 19 = .ok (.ireturn, 1) := by decide +kernel
theorem dX7_fault_0 : decode cX7_fault 0 = .ok (.aload_n 0, 1) := by decide +kernel
theorem dX7_fault_1 : decode cX7_fault 1 = .ok (.iload_n 1, 1) := by decide +kernel
theorem dX7_fault_2 : decode cX7_fault 2 = .ok (.invokevirtual 267, 3) := by decide +kernel
theorem dX7_fault_5 : decode cX7_fault 5 = .ok (.ifCond .ne 25, 3) := by decide +kernel
theorem dX7_fault_8 : decode cX7_fault 8 = .ok (.aload_n 0, 1) := by decide +kernel
theorem dX7_fault_9 : decode cX7_fault 9 = .ok (.iload_n 2, 1) := by decide +kernel
theorem dX7_fault_10 : decode cX7_fault 10 = .ok (.iconst 0, 1) := by decide +kernel
theorem dX7_fault_11 : decode cX7_fault 11 = .ok (.iconst 2, 1) := by decide +kernel
theorem dX7_fault_12 : decode cX7_fault 12 = .ok (.invokestatic 94, 3) := by decide +kernel
theorem dX7_fault_15 : decode cX7_fault 15 = .ok (.ifCond .ne 7, 3) := by decide +kernel
theorem dX7_fault_18 : decode cX7_fault 18 = .ok (.iconst 1, 1) := by decide +kernel
theorem dX7_fault_19 : decode cX7_fault 19 = .ok (.goto 4, 3) := by decide +kernel
theorem dX7_fault_22 : decode cX7_fault 22 = .ok (.iconst 0, 1) := by decide +kernel
theorem dX7_fault_23 : decode cX7_fault 23 = .ok (.iconst 2, 1) := by decide +kernel
theorem dX7_fault_24 : decode cX7_fault 24 = .ok (.invokevirtual 184, 3) := by decide +kernel
theorem dX7_fault_27 : decode cX7_fault 27 = .ok (.ifCond .eq 7, 3) := by decide +kernel
theorem dX7_fault_30 : decode cX7_fault 30 = .ok (.iconst 0, 1) := by decide +kernel
theorem dX7_fault_31 : decode cX7_fault 31 = .ok (.goto 12, 3) := by decide +kernel
theorem dX7_fault_34 : decode cX7_fault 34 = .ok (.aload_n 0, 1) := by decide +kernel
theorem dX7_fault_35 : decode cX7_fault 35 = .ok (.getfield 7, 3) := by decide +kernel
theorem dX7_fault_38 : decode cX7_fault 38 = .ok (.iload_n 1, 1) := by decide +kernel
theorem dX7_fault_39 : decode cX7_fault 39 = .ok (.iload_n 2, 1) := by decide +kernel
theorem dX7_fault_40 : decode cX7_fault 40 = .ok (.invokestatic 201, 3) := by decide +kernel
theorem dX7_fault_43 : decode cX7_fault 43 = .ok (.ireturn, 1) := by decide +kernel
theorem dX7_repeated_0 : decode cX7_repeated 0 = .ok (.iconst 0, 1) := by decide +kernel
theorem dX7_repeated_1 : decode cX7_repeated 1 = .ok (.istore_n 1, 1) := by decide +kernel
theorem dX7_repeated_2 : decode cX7_repeated 2 = .ok (.iconst 0, 1) := by decide +kernel
theorem dX7_repeated_3 : decode cX7_repeated 3 = .ok (.istore_n 2, 1) := by decide +kernel
theorem dX7_repeated_4 : decode cX7_repeated 4 = .ok (.iconst 0, 1) := by decide +kernel
theorem dX7_repeated_5 : decode cX7_repeated 5 = .ok (.istore_n 3, 1) := by decide +kernel
theorem dX7_repeated_6 : decode cX7_repeated 6 = .ok (.iload_n 3, 1) := by decide +kernel
theorem dX7_repeated_7 : decode cX7_repeated 7 = .ok (.aload_n 0, 1) := by decide +kernel
theorem dX7_repeated_8 : decode cX7_repeated 8 = .ok (.getfield 204, 3) := by decide +kernel
theorem dX7_repeated_11 : decode cX7_repeated 11 = .ok (.if_icmp .ge 42, 3) := by decide +kernel
theorem dX7_repeated_14 : decode cX7_repeated 14 = .ok (.aload_n 0, 1) := by decide +kernel
theorem dX7_repeated_15 : decode cX7_repeated 15 = .ok (.getfield 33, 3) := by decide +kernel
theorem dX7_repeated_18 : decode cX7_repeated 18 = .ok (.iload_n 3, 1) := by decide +kernel
theorem dX7_repeated_19 : decode cX7_repeated 19 = .ok (.iaload, 1) := by decide +kernel
theorem dX7_repeated_20 : decode cX7_repeated 20 = .ok (.ifCond .ne 27, 3) := by decide +kernel
theorem dX7_repeated_23 : decode cX7_repeated 23 = .ok (.iload_n 1, 1) := by decide +kernel
theorem dX7_repeated_24 : decode cX7_repeated 24 = .ok (.iload_n 2, 1) := by decide +kernel
theorem dX7_repeated_25 : decode cX7_repeated 25 = .ok (.aload_n 0, 1) := by decide +kernel
theorem dX7_repeated_26 : decode cX7_repeated 26 = .ok (.getfield 36, 3) := by decide +kernel
theorem dX7_repeated_29 : decode cX7_repeated 29 = .ok (.iload_n 3, 1) := by decide +kernel
theorem dX7_repeated_30 : decode cX7_repeated 30 = .ok (.iaload, 1) := by decide +kernel
theorem dX7_repeated_31 : decode cX7_repeated 31 = .ok (.ishr, 1) := by decide +kernel
theorem dX7_repeated_32 : decode cX7_repeated 32 = .ok (.iconst 1, 1) := by decide +kernel
theorem dX7_repeated_33 : decode cX7_repeated 33 = .ok (.iand, 1) := by decide +kernel
theorem dX7_repeated_34 : decode cX7_repeated 34 = .ok (.iadd, 1) := by decide +kernel
theorem dX7_repeated_35 : decode cX7_repeated 35 = .ok (.istore_n 1, 1) := by decide +kernel
theorem dX7_repeated_36 : decode cX7_repeated 36 = .ok (.iload_n 2, 1) := by decide +kernel
theorem dX7_repeated_37 : decode cX7_repeated 37 = .ok (.iconst 1, 1) := by decide +kernel
theorem dX7_repeated_38 : decode cX7_repeated 38 = .ok (.aload_n 0, 1) := by decide +kernel
theorem dX7_repeated_39 : decode cX7_repeated 39 = .ok (.getfield 36, 3) := by decide +kernel
theorem dX7_repeated_42 : decode cX7_repeated 42 = .ok (.iload_n 3, 1) := by decide +kernel
theorem dX7_repeated_43 : decode cX7_repeated 43 = .ok (.iaload, 1) := by decide +kernel
theorem dX7_repeated_44 : decode cX7_repeated 44 = .ok (.ishl, 1) := by decide +kernel
theorem dX7_repeated_45 : decode cX7_repeated 45 = .ok (.ior, 1) := by decide +kernel
theorem dX7_repeated_46 : decode cX7_repeated 46 = .ok (.istore_n 2, 1) := by decide +kernel
theorem dX7_repeated_47 : decode cX7_repeated 47 = .ok (.iinc 3 1, 3) := by decide +kernel
theorem dX7_repeated_50 : decode cX7_repeated 50 = .ok (.goto (-44), 3) := by decide +kernel
theorem dX7_repeated_53 : decode cX7_repeated 53 = .ok (.iload_n 1, 1) := by decide +kernel
theorem dX7_repeated_54 : decode cX7_repeated 54 = .ok (.ireturn, 1) := by decide +kernel
theorem dX7_answers_0 : decode cX7_answers 0 = .ok (.iconst 0, 1) := by decide +kernel
theorem dX7_answers_1 : decode cX7_answers 1 = .ok (.istore_n 1, 1) := by decide +kernel
theorem dX7_answers_2 : decode cX7_answers 2 = .ok (.iconst 0, 1) := by decide +kernel
theorem dX7_answers_3 : decode cX7_answers 3 = .ok (.istore_n 2, 1) := by decide +kernel
theorem dX7_answers_4 : decode cX7_answers 4 = .ok (.iload_n 2, 1) := by decide +kernel
theorem dX7_answers_5 : decode cX7_answers 5 = .ok (.aload_n 0, 1) := by decide +kernel
theorem dX7_answers_6 : decode cX7_answers 6 = .ok (.getfield 204, 3) := by decide +kernel
theorem dX7_answers_9 : decode cX7_answers 9 = .ok (.if_icmp .ge 18, 3) := by decide +kernel
theorem dX7_answers_12 : decode cX7_answers 12 = .ok (.iload_n 1, 1) := by decide +kernel
theorem dX7_answers_13 : decode cX7_answers 13 = .ok (.aload_n 0, 1) := by decide +kernel
theorem dX7_answers_14 : decode cX7_answers 14 = .ok (.getfield 33, 3) := by decide +kernel
theorem dX7_answers_17 : decode cX7_answers 17 = .ok (.iload_n 2, 1) := by decide +kernel
theorem dX7_answers_18 : decode cX7_answers 18 = .ok (.iaload, 1) := by decide +kernel
theorem dX7_answers_19 : decode cX7_answers 19 = .ok (.iadd, 1) := by decide +kernel
theorem dX7_answers_20 : decode cX7_answers 20 = .ok (.istore_n 1, 1) := by decide +kernel
theorem dX7_answers_21 : decode cX7_answers 21 = .ok (.iinc 2 1, 3) := by decide +kernel
theorem dX7_answers_24 : decode cX7_answers 24 = .ok (.goto (-20), 3) := by decide +kernel
theorem dX7_answers_27 : decode cX7_answers 27 = .ok (.iload_n 1, 1) := by decide +kernel
theorem dX7_answers_28 : decode cX7_answers 28 = .ok (.ireturn, 1) := by decide +kernel
theorem dX7_statesMany_0 : decode cX7_statesMany 0 = .ok (.iconst 0, 1) := by decide +kernel
theorem dX7_statesMany_1 : decode cX7_statesMany 1 = .ok (.istore_n 1, 1) := by decide +kernel
theorem dX7_statesMany_2 : decode cX7_statesMany 2 = .ok (.iconst 0, 1) := by decide +kernel
theorem dX7_statesMany_3 : decode cX7_statesMany 3 = .ok (.istore_n 2, 1) := by decide +kernel
theorem dX7_statesMany_4 : decode cX7_statesMany 4 = .ok (.iload_n 2, 1) := by decide +kernel
theorem dX7_statesMany_5 : decode cX7_statesMany 5 = .ok (.sipush 144, 3) := by decide +kernel
theorem dX7_statesMany_8 : decode cX7_statesMany 8 = .ok (.if_icmp .ge 26, 3) := by decide +kernel
theorem dX7_statesMany_11 : decode cX7_statesMany 11 = .ok (.iload_n 1, 1) := by decide +kernel
theorem dX7_statesMany_12 : decode cX7_statesMany 12 = .ok (.aload_n 0, 1) := by decide +kernel
theorem dX7_statesMany_13 : decode cX7_statesMany 13 = .ok (.getfield 48, 3) := by decide +kernel
theorem dX7_statesMany_16 : decode cX7_statesMany 16 = .ok (.iload_n 2, 1) := by decide +kernel
theorem dX7_statesMany_17 : decode cX7_statesMany 17 = .ok (.baload, 1) := by decide +kernel
theorem dX7_statesMany_18 : decode cX7_statesMany 18 = .ok (.ifCond .eq 7, 3) := by decide +kernel
theorem dX7_statesMany_21 : decode cX7_statesMany 21 = .ok (.iconst 1, 1) := by decide +kernel
theorem dX7_statesMany_22 : decode cX7_statesMany 22 = .ok (.goto 4, 3) := by decide +kernel
theorem dX7_statesMany_25 : decode cX7_statesMany 25 = .ok (.iconst 0, 1) := by decide +kernel
theorem dX7_statesMany_26 : decode cX7_statesMany 26 = .ok (.iadd, 1) := by decide +kernel
theorem dX7_statesMany_27 : decode cX7_statesMany 27 = .ok (.istore_n 1, 1) := by decide +kernel
theorem dX7_statesMany_28 : decode cX7_statesMany 28 = .ok (.iinc 2 1, 3) := by decide +kernel
theorem dX7_statesMany_31 : decode cX7_statesMany 31 = .ok (.goto (-27), 3) := by decide +kernel
theorem dX7_statesMany_34 : decode cX7_statesMany 34 = .ok (.iload_n 1, 1) := by decide +kernel
theorem dX7_statesMany_35 : decode cX7_statesMany 35 = .ok (.ireturn, 1) := by decide +kernel
theorem dX7_result_0 : decode cX7_result 0 = .ok (.aload_n 0, 1) := by decide +kernel
theorem dX7_result_1 : decode cX7_result 1 = .ok (.iconst 0, 1) := by decide +kernel
theorem dX7_result_2 : decode cX7_result 2 = .ok (.putfield 65, 3) := by decide +kernel
theorem dX7_result_5 : decode cX7_result 5 = .ok (.aload_n 0, 1) := by decide +kernel
theorem dX7_result_6 : decode cX7_result 6 = .ok (.iload_n 1, 1) := by decide +kernel
theorem dX7_result_7 : decode cX7_result 7 = .ok (.iconst 0, 1) := by decide +kernel
theorem dX7_result_8 : decode cX7_result 8 = .ok (.bipush 7, 2) := by decide +kernel
theorem dX7_result_10 : decode cX7_result 10 = .ok (.invokestatic 94, 3) := by decide +kernel
theorem dX7_result_13 : decode cX7_result 13 = .ok (.ifCond .ne 7, 3) := by decide +kernel
theorem dX7_result_16 : decode cX7_result 16 = .ok (.iconst 1, 1) := by decide +kernel
theorem dX7_result_17 : decode cX7_result 17 = .ok (.goto 4, 3) := by decide +kernel
theorem dX7_result_20 : decode cX7_result 20 = .ok (.iconst 0, 1) := by decide +kernel
theorem dX7_result_21 : decode cX7_result 21 = .ok (.iconst 1, 1) := by decide +kernel
theorem dX7_result_22 : decode cX7_result 22 = .ok (.invokevirtual 184, 3) := by decide +kernel
theorem dX7_result_25 : decode cX7_result 25 = .ok (.ifCond .eq 5, 3) := by decide +kernel
theorem dX7_result_28 : decode cX7_result 28 = .ok (.iconst 0, 1) := by decide +kernel
theorem dX7_result_29 : decode cX7_result 29 = .ok (.ireturn, 1) := by decide +kernel
theorem dX7_result_30 : decode cX7_result 30 = .ok (.aload_n 0, 1) := by decide +kernel
theorem dX7_result_31 : decode cX7_result 31 = .ok (.aload_n 0, 1) := by decide +kernel
theorem dX7_result_32 : decode cX7_result 32 = .ok (.getfield 7, 3) := by decide +kernel
theorem dX7_result_35 : decode cX7_result 35 = .ok (.invokevirtual 257, 3) := by decide +kernel
theorem dX7_result_38 : decode cX7_result 38 = .ok (.iload_n 1, 1) := by decide +kernel
theorem dX7_result_39 : decode cX7_result 39 = .ok (.tableswitch 76 0 6 #[41, 46, 51, 56, 61, 66, 71], 41) := by decide +kernel
theorem dX7_result_80 : decode cX7_result 80 = .ok (.aload_n 0, 1) := by decide +kernel
theorem dX7_result_81 : decode cX7_result 81 = .ok (.getfield 207, 3) := by decide +kernel
theorem dX7_result_84 : decode cX7_result 84 = .ok (.ireturn, 1) := by decide +kernel
theorem dX7_result_85 : decode cX7_result 85 = .ok (.aload_n 0, 1) := by decide +kernel
theorem dX7_result_86 : decode cX7_result 86 = .ok (.getfield 204, 3) := by decide +kernel
theorem dX7_result_89 : decode cX7_result 89 = .ok (.ireturn, 1) := by decide +kernel
theorem dX7_result_90 : decode cX7_result 90 = .ok (.aload_n 0, 1) := by decide +kernel
theorem dX7_result_91 : decode cX7_result 91 = .ok (.getfield 210, 3) := by decide +kernel
theorem dX7_result_94 : decode cX7_result 94 = .ok (.ireturn, 1) := by decide +kernel
theorem dX7_result_95 : decode cX7_result 95 = .ok (.aload_n 0, 1) := by decide +kernel
theorem dX7_result_96 : decode cX7_result 96 = .ok (.getfield 216, 3) := by decide +kernel
theorem dX7_result_99 : decode cX7_result 99 = .ok (.ireturn, 1) := by decide +kernel
theorem dX7_result_100 : decode cX7_result 100 = .ok (.aload_n 0, 1) := by decide +kernel
theorem dX7_result_101 : decode cX7_result 101 = .ok (.invokevirtual 270, 3) := by decide +kernel
theorem dX7_result_104 : decode cX7_result 104 = .ok (.ireturn, 1) := by decide +kernel
theorem dX7_result_105 : decode cX7_result 105 = .ok (.aload_n 0, 1) := by decide +kernel
theorem dX7_result_106 : decode cX7_result 106 = .ok (.invokevirtual 273, 3) := by decide +kernel
theorem dX7_result_109 : decode cX7_result 109 = .ok (.ireturn, 1) := by decide +kernel
theorem dX7_result_110 : decode cX7_result 110 = .ok (.aload_n 0, 1) := by decide +kernel
theorem dX7_result_111 : decode cX7_result 111 = .ok (.invokevirtual 276, 3) := by decide +kernel
theorem dX7_result_114 : decode cX7_result 114 = .ok (.ireturn, 1) := by decide +kernel
theorem dX7_result_115 : decode cX7_result 115 = .ok (.aload_n 0, 1) := by decide +kernel
theorem dX7_result_116 : decode cX7_result 116 = .ok (.invokevirtual 279, 3) := by decide +kernel
theorem dX7_result_119 : decode cX7_result 119 = .ok (.ireturn, 1) := by decide +kernel
theorem dX7_delivered_0 : decode cX7_delivered 0 = .ok (.aload_n 0, 1) := by decide +kernel
theorem dX7_delivered_1 : decode cX7_delivered 1 = .ok (.iconst 0, 1) := by decide +kernel
theorem dX7_delivered_2 : decode cX7_delivered 2 = .ok (.putfield 65, 3) := by decide +kernel
theorem dX7_delivered_5 : decode cX7_delivered 5 = .ok (.aload_n 0, 1) := by decide +kernel
theorem dX7_delivered_6 : decode cX7_delivered 6 = .ok (.aload_n 0, 1) := by decide +kernel
theorem dX7_delivered_7 : decode cX7_delivered 7 = .ok (.getfield 7, 3) := by decide +kernel
theorem dX7_delivered_10 : decode cX7_delivered 10 = .ok (.invokevirtual 257, 3) := by decide +kernel
theorem dX7_delivered_13 : decode cX7_delivered 13 = .ok (.iload_n 1, 1) := by decide +kernel
theorem dX7_delivered_14 : decode cX7_delivered 14 = .ok (.iconst 0, 1) := by decide +kernel
theorem dX7_delivered_15 : decode cX7_delivered 15 = .ok (.aload_n 0, 1) := by decide +kernel
theorem dX7_delivered_16 : decode cX7_delivered 16 = .ok (.getfield 210, 3) := by decide +kernel
theorem dX7_delivered_19 : decode cX7_delivered 19 = .ok (.iconst 1, 1) := by decide +kernel
theorem dX7_delivered_20 : decode cX7_delivered 20 = .ok (.isub, 1) := by decide +kernel
theorem dX7_delivered_21 : decode cX7_delivered 21 = .ok (.invokestatic 94, 3) := by decide +kernel
theorem dX7_delivered_24 : decode cX7_delivered 24 = .ok (.ifCond .eq 12, 3) := by decide +kernel
theorem dX7_delivered_27 : decode cX7_delivered 27 = .ok (.aload_n 0, 1) := by decide +kernel
theorem dX7_delivered_28 : decode cX7_delivered 28 = .ok (.getfield 45, 3) := by decide +kernel
theorem dX7_delivered_31 : decode cX7_delivered 31 = .ok (.iload_n 1, 1) := by decide +kernel
theorem dX7_delivered_32 : decode cX7_delivered 32 = .ok (.iaload, 1) := by decide +kernel
theorem dX7_delivered_33 : decode cX7_delivered 33 = .ok (.goto 4, 3) := by decide +kernel
theorem dX7_delivered_36 : decode cX7_delivered 36 = .ok (.iconst (-1), 1) := by decide +kernel
theorem dX7_delivered_37 : decode cX7_delivered 37 = .ok (.ireturn, 1) := by decide +kernel
theorem dX7_sent_0 : decode cX7_sent 0 = .ok (.aload_n 0, 1) := by decide +kernel
theorem dX7_sent_1 : decode cX7_sent 1 = .ok (.iconst 0, 1) := by decide +kernel
theorem dX7_sent_2 : decode cX7_sent 2 = .ok (.putfield 65, 3) := by decide +kernel
theorem dX7_sent_5 : decode cX7_sent 5 = .ok (.aload_n 0, 1) := by decide +kernel
theorem dX7_sent_6 : decode cX7_sent 6 = .ok (.iload_n 2, 1) := by decide +kernel
theorem dX7_sent_7 : decode cX7_sent 7 = .ok (.iconst 0, 1) := by decide +kernel
theorem dX7_sent_8 : decode cX7_sent 8 = .ok (.iconst 4, 1) := by decide +kernel
theorem dX7_sent_9 : decode cX7_sent 9 = .ok (.invokestatic 94, 3) := by decide +kernel
theorem dX7_sent_12 : decode cX7_sent 12 = .ok (.ifCond .ne 7, 3) := by decide +kernel
theorem dX7_sent_15 : decode cX7_sent 15 = .ok (.iconst 1, 1) := by decide +kernel
theorem dX7_sent_16 : decode cX7_sent 16 = .ok (.goto 4, 3) := by decide +kernel
theorem dX7_sent_19 : decode cX7_sent 19 = .ok (.iconst 0, 1) := by decide +kernel
theorem dX7_sent_20 : decode cX7_sent 20 = .ok (.iconst 1, 1) := by decide +kernel
theorem dX7_sent_21 : decode cX7_sent 21 = .ok (.invokevirtual 184, 3) := by decide +kernel
theorem dX7_sent_24 : decode cX7_sent 24 = .ok (.ifCond .eq 5, 3) := by decide +kernel
theorem dX7_sent_27 : decode cX7_sent 27 = .ok (.iconst 0, 1) := by decide +kernel
theorem dX7_sent_28 : decode cX7_sent 28 = .ok (.ireturn, 1) := by decide +kernel
theorem dX7_sent_29 : decode cX7_sent 29 = .ok (.aload_n 0, 1) := by decide +kernel
theorem dX7_sent_30 : decode cX7_sent 30 = .ok (.aload_n 0, 1) := by decide +kernel
theorem dX7_sent_31 : decode cX7_sent 31 = .ok (.getfield 7, 3) := by decide +kernel
theorem dX7_sent_34 : decode cX7_sent 34 = .ok (.invokevirtual 257, 3) := by decide +kernel
theorem dX7_sent_37 : decode cX7_sent 37 = .ok (.iload_n 1, 1) := by decide +kernel
theorem dX7_sent_38 : decode cX7_sent 38 = .ok (.iconst 0, 1) := by decide +kernel
theorem dX7_sent_39 : decode cX7_sent 39 = .ok (.aload_n 0, 1) := by decide +kernel
theorem dX7_sent_40 : decode cX7_sent 40 = .ok (.getfield 204, 3) := by decide +kernel
theorem dX7_sent_43 : decode cX7_sent 43 = .ok (.iconst 1, 1) := by decide +kernel
theorem dX7_sent_44 : decode cX7_sent 44 = .ok (.isub, 1) := by decide +kernel
theorem dX7_sent_45 : decode cX7_sent 45 = .ok (.invokestatic 94, 3) := by decide +kernel
theorem dX7_sent_48 : decode cX7_sent 48 = .ok (.ifCond .ne 5, 3) := by decide +kernel
theorem dX7_sent_51 : decode cX7_sent 51 = .ok (.iconst (-1), 1) := by decide +kernel
theorem dX7_sent_52 : decode cX7_sent 52 = .ok (.ireturn, 1) := by decide +kernel
theorem dX7_sent_53 : decode cX7_sent 53 = .ok (.iload_n 2, 1) := by decide +kernel
theorem dX7_sent_54 : decode cX7_sent 54 = .ok (.ifCond .ne 12, 3) := by decide +kernel
theorem dX7_sent_57 : decode cX7_sent 57 = .ok (.aload_n 0, 1) := by decide +kernel
theorem dX7_sent_58 : decode cX7_sent 58 = .ok (.getfield 30, 3) := by decide +kernel
theorem dX7_sent_61 : decode cX7_sent 61 = .ok (.iload_n 1, 1) := by decide +kernel
theorem dX7_sent_62 : decode cX7_sent 62 = .ok (.iaload, 1) := by decide +kernel
theorem dX7_sent_63 : decode cX7_sent 63 = .ok (.goto 51, 3) := by decide +kernel
theorem dX7_sent_66 : decode cX7_sent 66 = .ok (.iload_n 2, 1) := by decide +kernel
theorem dX7_sent_67 : decode cX7_sent 67 = .ok (.iconst 1, 1) := by decide +kernel
theorem dX7_sent_68 : decode cX7_sent 68 = .ok (.if_icmp .ne 12, 3) := by decide +kernel
theorem dX7_sent_71 : decode cX7_sent 71 = .ok (.aload_n 0, 1) := by decide +kernel
theorem dX7_sent_72 : decode cX7_sent 72 = .ok (.getfield 33, 3) := by decide +kernel
theorem dX7_sent_75 : decode cX7_sent 75 = .ok (.iload_n 1, 1) := by decide +kernel
theorem dX7_sent_76 : decode cX7_sent 76 = .ok (.iaload, 1) := by decide +kernel
theorem dX7_sent_77 : decode cX7_sent 77 = .ok (.goto 37, 3) := by decide +kernel
theorem dX7_sent_80 : decode cX7_sent 80 = .ok (.iload_n 2, 1) := by decide +kernel
theorem dX7_sent_81 : decode cX7_sent 81 = .ok (.iconst 2, 1) := by decide +kernel
theorem dX7_sent_82 : decode cX7_sent 82 = .ok (.if_icmp .ne 12, 3) := by decide +kernel
theorem dX7_sent_85 : decode cX7_sent 85 = .ok (.aload_n 0, 1) := by decide +kernel
theorem dX7_sent_86 : decode cX7_sent 86 = .ok (.getfield 36, 3) := by decide +kernel
theorem dX7_sent_89 : decode cX7_sent 89 = .ok (.iload_n 1, 1) := by decide +kernel
theorem dX7_sent_90 : decode cX7_sent 90 = .ok (.iaload, 1) := by decide +kernel
theorem dX7_sent_91 : decode cX7_sent 91 = .ok (.goto 23, 3) := by decide +kernel
theorem dX7_sent_94 : decode cX7_sent 94 = .ok (.iload_n 2, 1) := by decide +kernel
theorem dX7_sent_95 : decode cX7_sent 95 = .ok (.iconst 3, 1) := by decide +kernel
theorem dX7_sent_96 : decode cX7_sent 96 = .ok (.if_icmp .ne 12, 3) := by decide +kernel
theorem dX7_sent_99 : decode cX7_sent 99 = .ok (.aload_n 0, 1) := by decide +kernel
theorem dX7_sent_100 : decode cX7_sent 100 = .ok (.getfield 39, 3) := by decide +kernel
theorem dX7_sent_103 : decode cX7_sent 103 = .ok (.iload_n 1, 1) := by decide +kernel
theorem dX7_sent_104 : decode cX7_sent 104 = .ok (.iaload, 1) := by decide +kernel
theorem dX7_sent_105 : decode cX7_sent 105 = .ok (.goto 9, 3) := by decide +kernel
theorem dX7_sent_108 : decode cX7_sent 108 = .ok (.aload_n 0, 1) := by decide +kernel
theorem dX7_sent_109 : decode cX7_sent 109 = .ok (.getfield 42, 3) := by decide +kernel
theorem dX7_sent_112 : decode cX7_sent 112 = .ok (.iload_n 1, 1) := by decide +kernel
theorem dX7_sent_113 : decode cX7_sent 113 = .ok (.iaload, 1) := by decide +kernel
theorem dX7_sent_114 : decode cX7_sent 114 = .ok (.ireturn, 1) := by decide +kernel
theorem dX7_breaks_0 : decode cX7_breaks 0 = .ok (.aload_n 0, 1) := by decide +kernel
theorem dX7_breaks_1 : decode cX7_breaks 1 = .ok (.iconst 0, 1) := by decide +kernel
theorem dX7_breaks_2 : decode cX7_breaks 2 = .ok (.putfield 65, 3) := by decide +kernel
theorem dX7_breaks_5 : decode cX7_breaks 5 = .ok (.aload_n 0, 1) := by decide +kernel
theorem dX7_breaks_6 : decode cX7_breaks 6 = .ok (.iload_n 1, 1) := by decide +kernel
theorem dX7_breaks_7 : decode cX7_breaks 7 = .ok (.iconst 1, 1) := by decide +kernel
theorem dX7_breaks_8 : decode cX7_breaks 8 = .ok (.invokevirtual 282, 3) := by decide +kernel
theorem dX7_breaks_11 : decode cX7_breaks 11 = .ok (.ifCond .ne 19, 3) := by decide +kernel
theorem dX7_breaks_14 : decode cX7_breaks 14 = .ok (.aload_n 0, 1) := by decide +kernel
theorem dX7_breaks_15 : decode cX7_breaks 15 = .ok (.aload_n 0, 1) := by decide +kernel
theorem dX7_breaks_16 : decode cX7_breaks 16 = .ok (.getfield 7, 3) := by decide +kernel
theorem dX7_breaks_19 : decode cX7_breaks 19 = .ok (.iload_n 1, 1) := by decide +kernel
theorem dX7_breaks_20 : decode cX7_breaks 20 = .ok (.invokevirtual 285, 3) := by decide +kernel
theorem dX7_breaks_23 : decode cX7_breaks 23 = .ok (.ifCond .eq 7, 3) := by decide +kernel
theorem dX7_breaks_26 : decode cX7_breaks 26 = .ok (.iconst 1, 1) := by decide +kernel
theorem dX7_breaks_27 : decode cX7_breaks 27 = .ok (.goto 4, 3) := by decide +kernel
theorem dX7_breaks_30 : decode cX7_breaks 30 = .ok (.iconst 0, 1) := by decide +kernel
theorem dX7_breaks_31 : decode cX7_breaks 31 = .ok (.ireturn, 1) := by decide +kernel
theorem dX7_isState_0 : decode cX7_isState 0 = .ok (.iload_n 0, 1) := by decide +kernel
theorem dX7_isState_1 : decode cX7_isState 1 = .ok (.iconst 0, 1) := by decide +kernel
theorem dX7_isState_2 : decode cX7_isState 2 = .ok (.bipush 8, 2) := by decide +kernel
theorem dX7_isState_4 : decode cX7_isState 4 = .ok (.invokestatic 94, 3) := by decide +kernel
theorem dX7_isState_7 : decode cX7_isState 7 = .ok (.ifCond .eq 17, 3) := by decide +kernel
theorem dX7_isState_10 : decode cX7_isState 10 = .ok (.iload_n 1, 1) := by decide +kernel
theorem dX7_isState_11 : decode cX7_isState 11 = .ok (.iconst 0, 1) := by decide +kernel
theorem dX7_isState_12 : decode cX7_isState 12 = .ok (.bipush 15, 2) := by decide +kernel
theorem dX7_isState_14 : decode cX7_isState 14 = .ok (.invokestatic 94, 3) := by decide +kernel
theorem dX7_isState_17 : decode cX7_isState 17 = .ok (.ifCond .eq 7, 3) := by decide +kernel
theorem dX7_isState_20 : decode cX7_isState 20 = .ok (.iconst 1, 1) := by decide +kernel
theorem dX7_isState_21 : decode cX7_isState 21 = .ok (.goto 4, 3) := by decide +kernel
theorem dX7_isState_24 : decode cX7_isState 24 = .ok (.iconst 0, 1) := by decide +kernel
theorem dX7_isState_25 : decode cX7_isState 25 = .ok (.ireturn, 1) := by decide +kernel
theorem dX7_reaches_0 : decode cX7_reaches 0 = .ok (.aload_n 0, 1) := by decide +kernel
theorem dX7_reaches_1 : decode cX7_reaches 1 = .ok (.iconst 0, 1) := by decide +kernel
theorem dX7_reaches_2 : decode cX7_reaches 2 = .ok (.putfield 65, 3) := by decide +kernel
theorem dX7_reaches_5 : decode cX7_reaches 5 = .ok (.aload_n 0, 1) := by decide +kernel
theorem dX7_reaches_6 : decode cX7_reaches 6 = .ok (.aload_n 0, 1) := by decide +kernel
theorem dX7_reaches_7 : decode cX7_reaches 7 = .ok (.getfield 7, 3) := by decide +kernel
theorem dX7_reaches_10 : decode cX7_reaches 10 = .ok (.invokevirtual 257, 3) := by decide +kernel
theorem dX7_reaches_13 : decode cX7_reaches 13 = .ok (.iload_n 1, 1) := by decide +kernel
theorem dX7_reaches_14 : decode cX7_reaches 14 = .ok (.iload_n 2, 1) := by decide +kernel
theorem dX7_reaches_15 : decode cX7_reaches 15 = .ok (.invokestatic 289, 3) := by decide +kernel
theorem dX7_reaches_18 : decode cX7_reaches 18 = .ok (.ifCond .eq 21, 3) := by decide +kernel
theorem dX7_reaches_21 : decode cX7_reaches 21 = .ok (.aload_n 0, 1) := by decide +kernel
theorem dX7_reaches_22 : decode cX7_reaches 22 = .ok (.getfield 48, 3) := by decide +kernel
theorem dX7_reaches_25 : decode cX7_reaches 25 = .ok (.bipush 16, 2) := by decide +kernel
theorem dX7_reaches_27 : decode cX7_reaches 27 = .ok (.iload_n 1, 1) := by decide +kernel
theorem dX7_reaches_28 : decode cX7_reaches 28 = .ok (.imul, 1) := by decide +kernel
theorem dX7_reaches_29 : decode cX7_reaches 29 = .ok (.iload_n 2, 1) := by decide +kernel
theorem dX7_reaches_30 : decode cX7_reaches 30 = .ok (.iadd, 1) := by decide +kernel
theorem dX7_reaches_31 : decode cX7_reaches 31 = .ok (.baload, 1) := by decide +kernel
theorem dX7_reaches_32 : decode cX7_reaches 32 = .ok (.ifCond .eq 7, 3) := by decide +kernel
theorem dX7_reaches_35 : decode cX7_reaches 35 = .ok (.iconst 1, 1) := by decide +kernel
theorem dX7_reaches_36 : decode cX7_reaches 36 = .ok (.goto 4, 3) := by decide +kernel
theorem dX7_reaches_39 : decode cX7_reaches 39 = .ok (.iconst 0, 1) := by decide +kernel
theorem dX7_reaches_40 : decode cX7_reaches 40 = .ok (.ireturn, 1) := by decide +kernel
theorem dX7_triesWithout_0 : decode cX7_triesWithout 0 = .ok (.aload_n 0, 1) := by decide +kernel
theorem dX7_triesWithout_1 : decode cX7_triesWithout 1 = .ok (.getfield 7, 3) := by decide +kernel
theorem dX7_triesWithout_4 : decode cX7_triesWithout 4 = .ok (.iconst 0, 1) := by decide +kernel
theorem dX7_triesWithout_5 : decode cX7_triesWithout 5 = .ok (.aload_n 0, 1) := by decide +kernel
theorem dX7_triesWithout_6 : decode cX7_triesWithout 6 = .ok (.getfield 27, 3) := by decide +kernel
theorem dX7_triesWithout_9 : decode cX7_triesWithout 9 = .ok (.iconst 0, 1) := by decide +kernel
theorem dX7_triesWithout_10 : decode cX7_triesWithout 10 = .ok (.invokestatic 194, 3) := by decide +kernel
theorem dX7_triesWithout_13 : decode cX7_triesWithout 13 = .ok (.aload_n 0, 1) := by decide +kernel
theorem dX7_triesWithout_14 : decode cX7_triesWithout 14 = .ok (.getfield 27, 3) := by decide +kernel
theorem dX7_triesWithout_17 : decode cX7_triesWithout 17 = .ok (.iload_n 1, 1) := by decide +kernel
theorem dX7_triesWithout_18 : decode cX7_triesWithout 18 = .ok (.invokestatic 292, 3) := by decide +kernel
theorem dX7_triesWithout_21 : decode cX7_triesWithout 21 = .ok (.return_, 1) := by decide +kernel
theorem dX7_matters_0 : decode cX7_matters 0 = .ok (.aload_n 0, 1) := by decide +kernel
theorem dX7_matters_1 : decode cX7_matters 1 = .ok (.iload_n 1, 1) := by decide +kernel
theorem dX7_matters_2 : decode cX7_matters 2 = .ok (.invokevirtual 267, 3) := by decide +kernel
theorem dX7_matters_5 : decode cX7_matters 5 = .ok (.ifCond .ne 24, 3) := by decide +kernel
theorem dX7_matters_8 : decode cX7_matters 8 = .ok (.aload_n 0, 1) := by decide +kernel
theorem dX7_matters_9 : decode cX7_matters 9 = .ok (.iload_n 2, 1) := by decide +kernel
theorem dX7_matters_10 : decode cX7_matters 10 = .ok (.iconst 2, 1) := by decide +kernel
theorem dX7_matters_11 : decode cX7_matters 11 = .ok (.invokevirtual 282, 3) := by decide +kernel
theorem dX7_matters_14 : decode cX7_matters 14 = .ok (.ifCond .ne 15, 3) := by decide +kernel
theorem dX7_matters_17 : decode cX7_matters 17 = .ok (.aload_n 0, 1) := by decide +kernel
theorem dX7_matters_18 : decode cX7_matters 18 = .ok (.aload_n 0, 1) := by decide +kernel
theorem dX7_matters_19 : decode cX7_matters 19 = .ok (.getfield 7, 3) := by decide +kernel
theorem dX7_matters_22 : decode cX7_matters 22 = .ok (.iload_n 2, 1) := by decide +kernel
theorem dX7_matters_23 : decode cX7_matters 23 = .ok (.invokevirtual 285, 3) := by decide +kernel
theorem dX7_matters_26 : decode cX7_matters 26 = .ok (.ifCond .ne 5, 3) := by decide +kernel
theorem dX7_matters_29 : decode cX7_matters 29 = .ok (.iconst 0, 1) := by decide +kernel
theorem dX7_matters_30 : decode cX7_matters 30 = .ok (.ireturn, 1) := by decide +kernel
theorem dX7_matters_31 : decode cX7_matters 31 = .ok (.aload_n 0, 1) := by decide +kernel
theorem dX7_matters_32 : decode cX7_matters 32 = .ok (.iload_n 1, 1) := by decide +kernel
theorem dX7_matters_33 : decode cX7_matters 33 = .ok (.invokevirtual 296, 3) := by decide +kernel
theorem dX7_matters_36 : decode cX7_matters 36 = .ok (.aload_n 0, 1) := by decide +kernel
theorem dX7_matters_37 : decode cX7_matters 37 = .ok (.aload_n 0, 1) := by decide +kernel
theorem dX7_matters_38 : decode cX7_matters 38 = .ok (.getfield 27, 3) := by decide +kernel
theorem dX7_matters_41 : decode cX7_matters 41 = .ok (.iload_n 2, 1) := by decide +kernel
theorem dX7_matters_42 : decode cX7_matters 42 = .ok (.invokevirtual 285, 3) := by decide +kernel
theorem dX7_matters_45 : decode cX7_matters 45 = .ok (.ifCond .ne 7, 3) := by decide +kernel
theorem dX7_matters_48 : decode cX7_matters 48 = .ok (.iconst 1, 1) := by decide +kernel
theorem dX7_matters_49 : decode cX7_matters 49 = .ok (.goto 4, 3) := by decide +kernel
theorem dX7_matters_52 : decode cX7_matters 52 = .ok (.iconst 0, 1) := by decide +kernel
theorem dX7_matters_53 : decode cX7_matters 53 = .ok (.ireturn, 1) := by decide +kernel
theorem dX7_ones_0 : decode cX7_ones 0 = .ok (.iconst 0, 1) := by decide +kernel
theorem dX7_ones_1 : decode cX7_ones 1 = .ok (.istore_n 1, 1) := by decide +kernel
theorem dX7_ones_2 : decode cX7_ones 2 = .ok (.iload_n 0, 1) := by decide +kernel
theorem dX7_ones_3 : decode cX7_ones 3 = .ok (.istore_n 2, 1) := by decide +kernel
theorem dX7_ones_4 : decode cX7_ones 4 = .ok (.iload_n 2, 1) := by decide +kernel
theorem dX7_ones_5 : decode cX7_ones 5 = .ok (.ifCond .eq 15, 3) := by decide +kernel
theorem dX7_ones_8 : decode cX7_ones 8 = .ok (.iinc 1 1, 3) := by decide +kernel
theorem dX7_ones_11 : decode cX7_ones 11 = .ok (.iload_n 2, 1) := by decide +kernel
theorem dX7_ones_12 : decode cX7_ones 12 = .ok (.iload_n 2, 1) := by decide +kernel
theorem dX7_ones_13 : decode cX7_ones 13 = .ok (.iconst 1, 1) := by decide +kernel
theorem dX7_ones_14 : decode cX7_ones 14 = .ok (.isub, 1) := by decide +kernel
theorem dX7_ones_15 : decode cX7_ones 15 = .ok (.iand, 1) := by decide +kernel
theorem dX7_ones_16 : decode cX7_ones 16 = .ok (.istore_n 2, 1) := by decide +kernel
theorem dX7_ones_17 : decode cX7_ones 17 = .ok (.goto (-13), 3) := by decide +kernel
theorem dX7_ones_20 : decode cX7_ones 20 = .ok (.iload_n 1, 1) := by decide +kernel
theorem dX7_ones_21 : decode cX7_ones 21 = .ok (.ireturn, 1) := by decide +kernel
theorem dX7_triesPart_0 : decode cX7_triesPart 0 = .ok (.aload_n 0, 1) := by decide +kernel
theorem dX7_triesPart_1 : decode cX7_triesPart 1 = .ok (.getfield 7, 3) := by decide +kernel
theorem dX7_triesPart_4 : decode cX7_triesPart 4 = .ok (.iconst 0, 1) := by decide +kernel
theorem dX7_triesPart_5 : decode cX7_triesPart 5 = .ok (.aload_n 0, 1) := by decide +kernel
theorem dX7_triesPart_6 : decode cX7_triesPart 6 = .ok (.getfield 27, 3) := by decide +kernel
theorem dX7_triesPart_9 : decode cX7_triesPart 9 = .ok (.iconst 0, 1) := by decide +kernel
theorem dX7_triesPart_10 : decode cX7_triesPart 10 = .ok (.invokestatic 194, 3) := by decide +kernel
theorem dX7_triesPart_13 : decode cX7_triesPart 13 = .ok (.aload_n 0, 1) := by decide +kernel
theorem dX7_triesPart_14 : decode cX7_triesPart 14 = .ok (.getfield 7, 3) := by decide +kernel
theorem dX7_triesPart_17 : decode cX7_triesPart 17 = .ok (.bipush 8, 2) := by decide +kernel
theorem dX7_triesPart_19 : decode cX7_triesPart 19 = .ok (.iaload, 1) := by decide +kernel
theorem dX7_triesPart_20 : decode cX7_triesPart 20 = .ok (.iconst 1, 1) := by decide +kernel
theorem dX7_triesPart_21 : decode cX7_triesPart 21 = .ok (.isub, 1) := by decide +kernel
theorem dX7_triesPart_22 : decode cX7_triesPart 22 = .ok (.istore_n 2, 1) := by decide +kernel
theorem dX7_triesPart_23 : decode cX7_triesPart 23 = .ok (.iload_n 2, 1) := by decide +kernel
theorem dX7_triesPart_24 : decode cX7_triesPart 24 = .ok (.ifCond .lt 25, 3) := by decide +kernel
theorem dX7_triesPart_27 : decode cX7_triesPart 27 = .ok (.iload_n 1, 1) := by decide +kernel
theorem dX7_triesPart_28 : decode cX7_triesPart 28 = .ok (.iload_n 2, 1) := by decide +kernel
theorem dX7_triesPart_29 : decode cX7_triesPart 29 = .ok (.ishr, 1) := by decide +kernel
theorem dX7_triesPart_30 : decode cX7_triesPart 30 = .ok (.iconst 1, 1) := by decide +kernel
theorem dX7_triesPart_31 : decode cX7_triesPart 31 = .ok (.iand, 1) := by decide +kernel
theorem dX7_triesPart_32 : decode cX7_triesPart 32 = .ok (.ifCond .ne 11, 3) := by decide +kernel
theorem dX7_triesPart_35 : decode cX7_triesPart 35 = .ok (.aload_n 0, 1) := by decide +kernel
theorem dX7_triesPart_36 : decode cX7_triesPart 36 = .ok (.getfield 27, 3) := by decide +kernel
theorem dX7_triesPart_39 : decode cX7_triesPart 39 = .ok (.iload_n 2, 1) := by decide +kernel
theorem dX7_triesPart_40 : decode cX7_triesPart 40 = .ok (.invokestatic 292, 3) := by decide +kernel
theorem dX7_triesPart_43 : decode cX7_triesPart 43 = .ok (.iinc 2 (-1), 3) := by decide +kernel
theorem dX7_triesPart_46 : decode cX7_triesPart 46 = .ok (.goto (-23), 3) := by decide +kernel
theorem dX7_triesPart_49 : decode cX7_triesPart 49 = .ok (.return_, 1) := by decide +kernel
theorem dX7_comesAhead_0 : decode cX7_comesAhead 0 = .ok (.iload_n 0, 1) := by decide +kernel
theorem dX7_comesAhead_1 : decode cX7_comesAhead 1 = .ok (.iload_n 1, 1) := by decide +kernel
theorem dX7_comesAhead_2 : decode cX7_comesAhead 2 = .ok (.ixor, 1) := by decide +kernel
theorem dX7_comesAhead_3 : decode cX7_comesAhead 3 = .ok (.istore_n 2, 1) := by decide +kernel
theorem dX7_comesAhead_4 : decode cX7_comesAhead 4 = .ok (.iload_n 0, 1) := by decide +kernel
theorem dX7_comesAhead_5 : decode cX7_comesAhead 5 = .ok (.iload_n 2, 1) := by decide +kernel
theorem dX7_comesAhead_6 : decode cX7_comesAhead 6 = .ok (.iand, 1) := by decide +kernel
theorem dX7_comesAhead_7 : decode cX7_comesAhead 7 = .ok (.iload_n 2, 1) := by decide +kernel
theorem dX7_comesAhead_8 : decode cX7_comesAhead 8 = .ok (.ineg, 1) := by decide +kernel
theorem dX7_comesAhead_9 : decode cX7_comesAhead 9 = .ok (.iand, 1) := by decide +kernel
theorem dX7_comesAhead_10 : decode cX7_comesAhead 10 = .ok (.ifCond .eq 7, 3) := by decide +kernel
theorem dX7_comesAhead_13 : decode cX7_comesAhead 13 = .ok (.iconst 1, 1) := by decide +kernel
theorem dX7_comesAhead_14 : decode cX7_comesAhead 14 = .ok (.goto 4, 3) := by decide +kernel
theorem dX7_comesAhead_17 : decode cX7_comesAhead 17 = .ok (.iconst 0, 1) := by decide +kernel
theorem dX7_comesAhead_18 : decode cX7_comesAhead 18 = .ok (.ireturn, 1) := by decide +kernel
theorem dX7_coreOf_0 : decode cX7_coreOf 0 = .ok (.iconst (-1), 1) := by decide +kernel
theorem dX7_coreOf_1 : decode cX7_coreOf 1 = .ok (.istore_n 2, 1) := by decide +kernel
theorem dX7_coreOf_2 : decode cX7_coreOf 2 = .ok (.iconst 0, 1) := by decide +kernel
theorem dX7_coreOf_3 : decode cX7_coreOf 3 = .ok (.istore_n 3, 1) := by decide +kernel
theorem dX7_coreOf_4 : decode cX7_coreOf 4 = .ok (.iload_n 3, 1) := by decide +kernel
theorem dX7_coreOf_5 : decode cX7_coreOf 5 = .ok (.iconst 1, 1) := by decide +kernel
theorem dX7_coreOf_6 : decode cX7_coreOf 6 = .ok (.aload_n 0, 1) := by decide +kernel
theorem dX7_coreOf_7 : decode cX7_coreOf 7 = .ok (.getfield 7, 3) := by decide +kernel
theorem dX7_coreOf_10 : decode cX7_coreOf 10 = .ok (.bipush 8, 2) := by decide +kernel
theorem dX7_coreOf_12 : decode cX7_coreOf 12 = .ok (.iaload, 1) := by decide +kernel
theorem dX7_coreOf_13 : decode cX7_coreOf 13 = .ok (.ishl, 1) := by decide +kernel
theorem dX7_coreOf_14 : decode cX7_coreOf 14 = .ok (.if_icmp .ge 82, 3) := by decide +kernel
theorem dX7_coreOf_17 : decode cX7_coreOf 17 = .ok (.iload_n 2, 1) := by decide +kernel
theorem dX7_coreOf_18 : decode cX7_coreOf 18 = .ok (.iconst (-1), 1) := by decide +kernel
theorem dX7_coreOf_19 : decode cX7_coreOf 19 = .ok (.if_icmp .eq 33, 3) := by decide +kernel
theorem dX7_coreOf_22 : decode cX7_coreOf 22 = .ok (.iload_n 3, 1) := by decide +kernel
theorem dX7_coreOf_23 : decode cX7_coreOf 23 = .ok (.invokestatic 299, 3) := by decide +kernel
theorem dX7_coreOf_26 : decode cX7_coreOf 26 = .ok (.iload_n 2, 1) := by decide +kernel
theorem dX7_coreOf_27 : decode cX7_coreOf 27 = .ok (.invokestatic 299, 3) := by decide +kernel
theorem dX7_coreOf_30 : decode cX7_coreOf 30 = .ok (.if_icmp .lt 22, 3) := by decide +kernel
theorem dX7_coreOf_33 : decode cX7_coreOf 33 = .ok (.iload_n 3, 1) := by decide +kernel
theorem dX7_coreOf_34 : decode cX7_coreOf 34 = .ok (.invokestatic 299, 3) := by decide +kernel
theorem dX7_coreOf_37 : decode cX7_coreOf 37 = .ok (.iload_n 2, 1) := by decide +kernel
theorem dX7_coreOf_38 : decode cX7_coreOf 38 = .ok (.invokestatic 299, 3) := by decide +kernel
theorem dX7_coreOf_41 : decode cX7_coreOf 41 = .ok (.if_icmp .ne 15, 3) := by decide +kernel
theorem dX7_coreOf_44 : decode cX7_coreOf 44 = .ok (.iload_n 3, 1) := by decide +kernel
theorem dX7_coreOf_45 : decode cX7_coreOf 45 = .ok (.iload_n 2, 1) := by decide +kernel
theorem dX7_coreOf_46 : decode cX7_coreOf 46 = .ok (.invokestatic 302, 3) := by decide +kernel
theorem dX7_coreOf_49 : decode cX7_coreOf 49 = .ok (.ifCond .eq 7, 3) := by decide +kernel
theorem dX7_coreOf_52 : decode cX7_coreOf 52 = .ok (.iconst 1, 1) := by decide +kernel
theorem dX7_coreOf_53 : decode cX7_coreOf 53 = .ok (.goto 4, 3) := by decide +kernel
theorem dX7_coreOf_56 : decode cX7_coreOf 56 = .ok (.iconst 0, 1) := by decide +kernel
theorem dX7_coreOf_57 : decode cX7_coreOf 57 = .ok (.istore 4, 2) := by decide +kernel
theorem dX7_coreOf_59 : decode cX7_coreOf 59 = .ok (.iload 4, 2) := by decide +kernel
theorem dX7_coreOf_61 : decode cX7_coreOf 61 = .ok (.ifCond .ne 6, 3) := by decide +kernel
theorem dX7_coreOf_64 : decode cX7_coreOf 64 = .ok (.goto 26, 3) := by decide +kernel
theorem dX7_coreOf_67 : decode cX7_coreOf 67 = .ok (.aload_n 0, 1) := by decide +kernel
theorem dX7_coreOf_68 : decode cX7_coreOf 68 = .ok (.iload_n 3, 1) := by decide +kernel
theorem dX7_coreOf_69 : decode cX7_coreOf 69 = .ok (.invokevirtual 305, 3) := by decide +kernel
theorem dX7_coreOf_72 : decode cX7_coreOf 72 = .ok (.aload_n 0, 1) := by decide +kernel
theorem dX7_coreOf_73 : decode cX7_coreOf 73 = .ok (.aload_n 0, 1) := by decide +kernel
theorem dX7_coreOf_74 : decode cX7_coreOf 74 = .ok (.getfield 27, 3) := by decide +kernel
theorem dX7_coreOf_77 : decode cX7_coreOf 77 = .ok (.iload_n 1, 1) := by decide +kernel
theorem dX7_coreOf_78 : decode cX7_coreOf 78 = .ok (.invokevirtual 285, 3) := by decide +kernel
theorem dX7_coreOf_81 : decode cX7_coreOf 81 = .ok (.ifCond .eq 7, 3) := by decide +kernel
theorem dX7_coreOf_84 : decode cX7_coreOf 84 = .ok (.iload_n 3, 1) := by decide +kernel
theorem dX7_coreOf_85 : decode cX7_coreOf 85 = .ok (.goto 4, 3) := by decide +kernel
theorem dX7_coreOf_88 : decode cX7_coreOf 88 = .ok (.iload_n 2, 1) := by decide +kernel
theorem dX7_coreOf_89 : decode cX7_coreOf 89 = .ok (.istore_n 2, 1) := by decide +kernel
theorem dX7_coreOf_90 : decode cX7_coreOf 90 = .ok (.iinc 3 1, 3) := by decide +kernel
theorem dX7_coreOf_93 : decode cX7_coreOf 93 = .ok (.goto (-89), 3) := by decide +kernel
theorem dX7_coreOf_96 : decode cX7_coreOf 96 = .ok (.iload_n 2, 1) := by decide +kernel
theorem dX7_coreOf_97 : decode cX7_coreOf 97 = .ok (.ireturn, 1) := by decide +kernel
theorem dX7_smallest_0 : decode cX7_smallest 0 = .ok (.aload_n 0, 1) := by decide +kernel
theorem dX7_smallest_1 : decode cX7_smallest 1 = .ok (.iconst 0, 1) := by decide +kernel
theorem dX7_smallest_2 : decode cX7_smallest 2 = .ok (.putfield 65, 3) := by decide +kernel
theorem dX7_smallest_5 : decode cX7_smallest 5 = .ok (.aload_n 0, 1) := by decide +kernel
theorem dX7_smallest_6 : decode cX7_smallest 6 = .ok (.iload_n 1, 1) := by decide +kernel
theorem dX7_smallest_7 : decode cX7_smallest 7 = .ok (.iconst 1, 1) := by decide +kernel
theorem dX7_smallest_8 : decode cX7_smallest 8 = .ok (.invokevirtual 282, 3) := by decide +kernel
theorem dX7_smallest_11 : decode cX7_smallest 11 = .ok (.ifCond .eq 5, 3) := by decide +kernel
theorem dX7_smallest_14 : decode cX7_smallest 14 = .ok (.iconst 0, 1) := by decide +kernel
theorem dX7_smallest_15 : decode cX7_smallest 15 = .ok (.ireturn, 1) := by decide +kernel
theorem dX7_smallest_16 : decode cX7_smallest 16 = .ok (.aload_n 0, 1) := by decide +kernel
theorem dX7_smallest_17 : decode cX7_smallest 17 = .ok (.iload_n 1, 1) := by decide +kernel
theorem dX7_smallest_18 : decode cX7_smallest 18 = .ok (.invokevirtual 308, 3) := by decide +kernel
theorem dX7_smallest_21 : decode cX7_smallest 21 = .ok (.istore_n 2, 1) := by decide +kernel
theorem dX7_smallest_22 : decode cX7_smallest 22 = .ok (.iload_n 2, 1) := by decide +kernel
theorem dX7_smallest_23 : decode cX7_smallest 23 = .ok (.iconst (-1), 1) := by decide +kernel
theorem dX7_smallest_24 : decode cX7_smallest 24 = .ok (.if_icmp .ne 7, 3) := by decide +kernel
theorem dX7_smallest_27 : decode cX7_smallest 27 = .ok (.iconst (-1), 1) := by decide +kernel
theorem dX7_smallest_28 : decode cX7_smallest 28 = .ok (.goto 7, 3) := by decide +kernel
theorem dX7_smallest_31 : decode cX7_smallest 31 = .ok (.iload_n 2, 1) := by decide +kernel
theorem dX7_smallest_32 : decode cX7_smallest 32 = .ok (.invokestatic 299, 3) := by decide +kernel
theorem dX7_smallest_35 : decode cX7_smallest 35 = .ok (.ireturn, 1) := by decide +kernel
theorem dX7_core_0 : decode cX7_core 0 = .ok (.aload_n 0, 1) := by decide +kernel
theorem dX7_core_1 : decode cX7_core 1 = .ok (.iconst 0, 1) := by decide +kernel
theorem dX7_core_2 : decode cX7_core 2 = .ok (.putfield 65, 3) := by decide +kernel
theorem dX7_core_5 : decode cX7_core 5 = .ok (.aload_n 0, 1) := by decide +kernel
theorem dX7_core_6 : decode cX7_core 6 = .ok (.iload_n 1, 1) := by decide +kernel
theorem dX7_core_7 : decode cX7_core 7 = .ok (.iconst 1, 1) := by decide +kernel
theorem dX7_core_8 : decode cX7_core 8 = .ok (.invokevirtual 282, 3) := by decide +kernel
theorem dX7_core_11 : decode cX7_core 11 = .ok (.ifCond .eq 7, 3) := by decide +kernel
theorem dX7_core_14 : decode cX7_core 14 = .ok (.iconst 0, 1) := by decide +kernel
theorem dX7_core_15 : decode cX7_core 15 = .ok (.goto 8, 3) := by decide +kernel
theorem dX7_core_18 : decode cX7_core 18 = .ok (.aload_n 0, 1) := by decide +kernel
theorem dX7_core_19 : decode cX7_core 19 = .ok (.iload_n 1, 1) := by decide +kernel
theorem dX7_core_20 : decode cX7_core 20 = .ok (.invokevirtual 308, 3) := by decide +kernel
theorem dX7_core_23 : decode cX7_core 23 = .ok (.ireturn, 1) := by decide +kernel
theorem dX7_leastOf_0 : decode cX7_leastOf 0 = .ok (.aload_n 0, 1) := by decide +kernel
theorem dX7_leastOf_1 : decode cX7_leastOf 1 = .ok (.getfield 7, 3) := by decide +kernel
theorem dX7_leastOf_4 : decode cX7_leastOf 4 = .ok (.iload_n 1, 1) := by decide +kernel
theorem dX7_leastOf_5 : decode cX7_leastOf 5 = .ok (.iconst 0, 1) := by decide +kernel
theorem dX7_leastOf_6 : decode cX7_leastOf 6 = .ok (.invokestatic 201, 3) := by decide +kernel
theorem dX7_leastOf_9 : decode cX7_leastOf 9 = .ok (.iconst 2, 1) := by decide +kernel
theorem dX7_leastOf_10 : decode cX7_leastOf 10 = .ok (.if_icmp .eq 5, 3) := by decide +kernel
theorem dX7_leastOf_13 : decode cX7_leastOf 13 = .ok (.iconst (-1), 1) := by decide +kernel
theorem dX7_leastOf_14 : decode cX7_leastOf 14 = .ok (.ireturn, 1) := by decide +kernel
theorem dX7_leastOf_15 : decode cX7_leastOf 15 = .ok (.aload_n 0, 1) := by decide +kernel
theorem dX7_leastOf_16 : decode cX7_leastOf 16 = .ok (.getfield 7, 3) := by decide +kernel
theorem dX7_leastOf_19 : decode cX7_leastOf 19 = .ok (.iconst 0, 1) := by decide +kernel
theorem dX7_leastOf_20 : decode cX7_leastOf 20 = .ok (.aload_n 0, 1) := by decide +kernel
theorem dX7_leastOf_21 : decode cX7_leastOf 21 = .ok (.getfield 27, 3) := by decide +kernel
theorem dX7_leastOf_24 : decode cX7_leastOf 24 = .ok (.iconst 0, 1) := by decide +kernel
theorem dX7_leastOf_25 : decode cX7_leastOf 25 = .ok (.invokestatic 194, 3) := by decide +kernel
theorem dX7_leastOf_28 : decode cX7_leastOf 28 = .ok (.iconst 1, 1) := by decide +kernel
theorem dX7_leastOf_29 : decode cX7_leastOf 29 = .ok (.istore_n 3, 1) := by decide +kernel
theorem dX7_leastOf_30 : decode cX7_leastOf 30 = .ok (.iload_n 3, 1) := by decide +kernel
theorem dX7_leastOf_31 : decode cX7_leastOf 31 = .ok (.aload_n 0, 1) := by decide +kernel
theorem dX7_leastOf_32 : decode cX7_leastOf 32 = .ok (.getfield 7, 3) := by decide +kernel
theorem dX7_leastOf_35 : decode cX7_leastOf 35 = .ok (.iload_n 1, 1) := by decide +kernel
theorem dX7_leastOf_36 : decode cX7_leastOf 36 = .ok (.iconst 2, 1) := by decide +kernel
theorem dX7_leastOf_37 : decode cX7_leastOf 37 = .ok (.invokestatic 201, 3) := by decide +kernel
theorem dX7_leastOf_40 : decode cX7_leastOf 40 = .ok (.if_icmp .gt 37, 3) := by decide +kernel
theorem dX7_leastOf_43 : decode cX7_leastOf 43 = .ok (.aload_n 0, 1) := by decide +kernel
theorem dX7_leastOf_44 : decode cX7_leastOf 44 = .ok (.getfield 27, 3) := by decide +kernel
theorem dX7_leastOf_47 : decode cX7_leastOf 47 = .ok (.bipush 9, 2) := by decide +kernel
theorem dX7_leastOf_49 : decode cX7_leastOf 49 = .ok (.iconst 3, 1) := by decide +kernel
theorem dX7_leastOf_50 : decode cX7_leastOf 50 = .ok (.iload_n 1, 1) := by decide +kernel
theorem dX7_leastOf_51 : decode cX7_leastOf 51 = .ok (.imul, 1) := by decide +kernel
theorem dX7_leastOf_52 : decode cX7_leastOf 52 = .ok (.iadd, 1) := by decide +kernel
theorem dX7_leastOf_53 : decode cX7_leastOf 53 = .ok (.iconst 2, 1) := by decide +kernel
theorem dX7_leastOf_54 : decode cX7_leastOf 54 = .ok (.iadd, 1) := by decide +kernel
theorem dX7_leastOf_55 : decode cX7_leastOf 55 = .ok (.iload_n 3, 1) := by decide +kernel
theorem dX7_leastOf_56 : decode cX7_leastOf 56 = .ok (.iastore, 1) := by decide +kernel
theorem dX7_leastOf_57 : decode cX7_leastOf 57 = .ok (.aload_n 0, 1) := by decide +kernel
theorem dX7_leastOf_58 : decode cX7_leastOf 58 = .ok (.aload_n 0, 1) := by decide +kernel
theorem dX7_leastOf_59 : decode cX7_leastOf 59 = .ok (.getfield 27, 3) := by decide +kernel
theorem dX7_leastOf_62 : decode cX7_leastOf 62 = .ok (.iload_n 2, 1) := by decide +kernel
theorem dX7_leastOf_63 : decode cX7_leastOf 63 = .ok (.invokevirtual 285, 3) := by decide +kernel
theorem dX7_leastOf_66 : decode cX7_leastOf 66 = .ok (.ifCond .eq 5, 3) := by decide +kernel
theorem dX7_leastOf_69 : decode cX7_leastOf 69 = .ok (.iload_n 3, 1) := by decide +kernel
theorem dX7_leastOf_70 : decode cX7_leastOf 70 = .ok (.ireturn, 1) := by decide +kernel
theorem dX7_leastOf_71 : decode cX7_leastOf 71 = .ok (.iinc 3 1, 3) := by decide +kernel
theorem dX7_leastOf_74 : decode cX7_leastOf 74 = .ok (.goto (-44), 3) := by decide +kernel
theorem dX7_leastOf_77 : decode cX7_leastOf 77 = .ok (.iconst (-1), 1) := by decide +kernel
theorem dX7_leastOf_78 : decode cX7_leastOf 78 = .ok (.ireturn, 1) := by decide +kernel
theorem dX7_leastAmount_0 : decode cX7_leastAmount 0 = .ok (.aload_n 0, 1) := by decide +kernel
theorem dX7_leastAmount_1 : decode cX7_leastAmount 1 = .ok (.iload_n 1, 1) := by decide +kernel
theorem dX7_leastAmount_2 : decode cX7_leastAmount 2 = .ok (.invokevirtual 267, 3) := by decide +kernel
theorem dX7_leastAmount_5 : decode cX7_leastAmount 5 = .ok (.ifCond .ne 12, 3) := by decide +kernel
theorem dX7_leastAmount_8 : decode cX7_leastAmount 8 = .ok (.aload_n 0, 1) := by decide +kernel
theorem dX7_leastAmount_9 : decode cX7_leastAmount 9 = .ok (.iload_n 2, 1) := by decide +kernel
theorem dX7_leastAmount_10 : decode cX7_leastAmount 10 = .ok (.iconst 2, 1) := by decide +kernel
theorem dX7_leastAmount_11 : decode cX7_leastAmount 11 = .ok (.invokevirtual 282, 3) := by decide +kernel
theorem dX7_leastAmount_14 : decode cX7_leastAmount 14 = .ok (.ifCond .eq 7, 3) := by decide +kernel
theorem dX7_leastAmount_17 : decode cX7_leastAmount 17 = .ok (.iconst 0, 1) := by decide +kernel
theorem dX7_leastAmount_18 : decode cX7_leastAmount 18 = .ok (.goto 9, 3) := by decide +kernel
theorem dX7_leastAmount_21 : decode cX7_leastAmount 21 = .ok (.aload_n 0, 1) := by decide +kernel
theorem dX7_leastAmount_22 : decode cX7_leastAmount 22 = .ok (.iload_n 1, 1) := by decide +kernel
theorem dX7_leastAmount_23 : decode cX7_leastAmount 23 = .ok (.iload_n 2, 1) := by decide +kernel
theorem dX7_leastAmount_24 : decode cX7_leastAmount 24 = .ok (.invokevirtual 311, 3) := by decide +kernel
theorem dX7_leastAmount_27 : decode cX7_leastAmount 27 = .ok (.ireturn, 1) := by decide +kernel
theorem dX7_triesSingle_0 : decode cX7_triesSingle 0 = .ok (.aload_n 0, 1) := by decide +kernel
theorem dX7_triesSingle_1 : decode cX7_triesSingle 1 = .ok (.getfield 7, 3) := by decide +kernel
theorem dX7_triesSingle_4 : decode cX7_triesSingle 4 = .ok (.iconst 0, 1) := by decide +kernel
theorem dX7_triesSingle_5 : decode cX7_triesSingle 5 = .ok (.aload_n 0, 1) := by decide +kernel
theorem dX7_triesSingle_6 : decode cX7_triesSingle 6 = .ok (.getfield 27, 3) := by decide +kernel
theorem dX7_triesSingle_9 : decode cX7_triesSingle 9 = .ok (.iconst 0, 1) := by decide +kernel
theorem dX7_triesSingle_10 : decode cX7_triesSingle 10 = .ok (.invokestatic 194, 3) := by decide +kernel
theorem dX7_triesSingle_13 : decode cX7_triesSingle 13 = .ok (.aload_n 0, 1) := by decide +kernel
theorem dX7_triesSingle_14 : decode cX7_triesSingle 14 = .ok (.getfield 27, 3) := by decide +kernel
theorem dX7_triesSingle_17 : decode cX7_triesSingle 17 = .ok (.bipush 8, 2) := by decide +kernel
theorem dX7_triesSingle_19 : decode cX7_triesSingle 19 = .ok (.iconst 0, 1) := by decide +kernel
theorem dX7_triesSingle_20 : decode cX7_triesSingle 20 = .ok (.iastore, 1) := by decide +kernel
theorem dX7_triesSingle_21 : decode cX7_triesSingle 21 = .ok (.iload_n 1, 1) := by decide +kernel
theorem dX7_triesSingle_22 : decode cX7_triesSingle 22 = .ok (.iconst (-1), 1) := by decide +kernel
theorem dX7_triesSingle_23 : decode cX7_triesSingle 23 = .ok (.if_icmp .ne 7, 3) := by decide +kernel
theorem dX7_triesSingle_26 : decode cX7_triesSingle 26 = .ok (.iconst 0, 1) := by decide +kernel
theorem dX7_triesSingle_27 : decode cX7_triesSingle 27 = .ok (.goto 13, 3) := by decide +kernel
theorem dX7_triesSingle_30 : decode cX7_triesSingle 30 = .ok (.aload_n 0, 1) := by decide +kernel
theorem dX7_triesSingle_31 : decode cX7_triesSingle 31 = .ok (.getfield 27, 3) := by decide +kernel
theorem dX7_triesSingle_34 : decode cX7_triesSingle 34 = .ok (.iload_n 1, 1) := by decide +kernel
theorem dX7_triesSingle_35 : decode cX7_triesSingle 35 = .ok (.iload_n 2, 1) := by decide +kernel
theorem dX7_triesSingle_36 : decode cX7_triesSingle 36 = .ok (.iload_n 3, 1) := by decide +kernel
theorem dX7_triesSingle_37 : decode cX7_triesSingle 37 = .ok (.invokestatic 141, 3) := by decide +kernel
theorem dX7_triesSingle_40 : decode cX7_triesSingle 40 = .ok (.istore 4, 2) := by decide +kernel
theorem dX7_triesSingle_42 : decode cX7_triesSingle 42 = .ok (.return_, 1) := by decide +kernel
theorem dX7_breaksAlone_0 : decode cX7_breaksAlone 0 = .ok (.aload_n 0, 1) := by decide +kernel
theorem dX7_breaksAlone_1 : decode cX7_breaksAlone 1 = .ok (.iconst (-1), 1) := by decide +kernel
theorem dX7_breaksAlone_2 : decode cX7_breaksAlone 2 = .ok (.iconst 0, 1) := by decide +kernel
theorem dX7_breaksAlone_3 : decode cX7_breaksAlone 3 = .ok (.iconst 0, 1) := by decide +kernel
theorem dX7_breaksAlone_4 : decode cX7_breaksAlone 4 = .ok (.invokevirtual 315, 3) := by decide +kernel
theorem dX7_breaksAlone_7 : decode cX7_breaksAlone 7 = .ok (.aload_n 0, 1) := by decide +kernel
theorem dX7_breaksAlone_8 : decode cX7_breaksAlone 8 = .ok (.aload_n 0, 1) := by decide +kernel
theorem dX7_breaksAlone_9 : decode cX7_breaksAlone 9 = .ok (.getfield 27, 3) := by decide +kernel
theorem dX7_breaksAlone_12 : decode cX7_breaksAlone 12 = .ok (.iload_n 1, 1) := by decide +kernel
theorem dX7_breaksAlone_13 : decode cX7_breaksAlone 13 = .ok (.invokevirtual 285, 3) := by decide +kernel
theorem dX7_breaksAlone_16 : decode cX7_breaksAlone 16 = .ok (.ireturn, 1) := by decide +kernel
theorem dX7_attacks_0 : decode cX7_attacks 0 = .ok (.aload_n 0, 1) := by decide +kernel
theorem dX7_attacks_1 : decode cX7_attacks 1 = .ok (.iload_n 2, 1) := by decide +kernel
theorem dX7_attacks_2 : decode cX7_attacks 2 = .ok (.putfield 319, 3) := by decide +kernel
theorem dX7_attacks_5 : decode cX7_attacks 5 = .ok (.aload_n 0, 1) := by decide +kernel
theorem dX7_attacks_6 : decode cX7_attacks 6 = .ok (.iload_n 3, 1) := by decide +kernel
theorem dX7_attacks_7 : decode cX7_attacks 7 = .ok (.putfield 322, 3) := by decide +kernel
theorem dX7_attacks_10 : decode cX7_attacks 10 = .ok (.aload_n 0, 1) := by decide +kernel
theorem dX7_attacks_11 : decode cX7_attacks 11 = .ok (.iload 4, 2) := by decide +kernel
theorem dX7_attacks_13 : decode cX7_attacks 13 = .ok (.putfield 325, 3) := by decide +kernel
theorem dX7_attacks_16 : decode cX7_attacks 16 = .ok (.aload_n 0, 1) := by decide +kernel
theorem dX7_attacks_17 : decode cX7_attacks 17 = .ok (.iload_n 2, 1) := by decide +kernel
theorem dX7_attacks_18 : decode cX7_attacks 18 = .ok (.iload_n 3, 1) := by decide +kernel
theorem dX7_attacks_19 : decode cX7_attacks 19 = .ok (.iload 4, 2) := by decide +kernel
theorem dX7_attacks_21 : decode cX7_attacks 21 = .ok (.invokevirtual 315, 3) := by decide +kernel
theorem dX7_attacks_24 : decode cX7_attacks 24 = .ok (.aload_n 0, 1) := by decide +kernel
theorem dX7_attacks_25 : decode cX7_attacks 25 = .ok (.aload_n 0, 1) := by decide +kernel
theorem dX7_attacks_26 : decode cX7_attacks 26 = .ok (.getfield 27, 3) := by decide +kernel
theorem dX7_attacks_29 : decode cX7_attacks 29 = .ok (.iload_n 1, 1) := by decide +kernel
theorem dX7_attacks_30 : decode cX7_attacks 30 = .ok (.invokevirtual 285, 3) := by decide +kernel
theorem dX7_attacks_33 : decode cX7_attacks 33 = .ok (.ireturn, 1) := by decide +kernel
theorem dX7_findsAttack_0 : decode cX7_findsAttack 0 = .ok (.aload_n 0, 1) := by decide +kernel
theorem dX7_findsAttack_1 : decode cX7_findsAttack 1 = .ok (.iload_n 1, 1) := by decide +kernel
theorem dX7_findsAttack_2 : decode cX7_findsAttack 2 = .ok (.invokevirtual 328, 3) := by decide +kernel
theorem dX7_findsAttack_5 : decode cX7_findsAttack 5 = .ok (.ifCond .eq 5, 3) := by decide +kernel
theorem dX7_findsAttack_8 : decode cX7_findsAttack 8 = .ok (.iconst 0, 1) := by decide +kernel
theorem dX7_findsAttack_9 : decode cX7_findsAttack 9 = .ok (.ireturn, 1) := by decide +kernel
theorem dX7_findsAttack_10 : decode cX7_findsAttack 10 = .ok (.aload_n 0, 1) := by decide +kernel
theorem dX7_findsAttack_11 : decode cX7_findsAttack 11 = .ok (.getfield 204, 3) := by decide +kernel
theorem dX7_findsAttack_14 : decode cX7_findsAttack 14 = .ok (.istore_n 2, 1) := by decide +kernel
theorem dX7_findsAttack_15 : decode cX7_findsAttack 15 = .ok (.iconst 0, 1) := by decide +kernel
theorem dX7_findsAttack_16 : decode cX7_findsAttack 16 = .ok (.istore_n 3, 1) := by decide +kernel
theorem dX7_findsAttack_17 : decode cX7_findsAttack 17 = .ok (.iload_n 3, 1) := by decide +kernel
theorem dX7_findsAttack_18 : decode cX7_findsAttack 18 = .ok (.iload_n 2, 1) := by decide +kernel
theorem dX7_findsAttack_19 : decode cX7_findsAttack 19 = .ok (.if_icmp .ge 63, 3) := by decide +kernel
theorem dX7_findsAttack_22 : decode cX7_findsAttack 22 = .ok (.aload_n 0, 1) := by decide +kernel
theorem dX7_findsAttack_23 : decode cX7_findsAttack 23 = .ok (.iload_n 1, 1) := by decide +kernel
theorem dX7_findsAttack_24 : decode cX7_findsAttack 24 = .ok (.iconst 0, 1) := by decide +kernel
theorem dX7_findsAttack_25 : decode cX7_findsAttack 25 = .ok (.iload_n 3, 1) := by decide +kernel
theorem dX7_findsAttack_26 : decode cX7_findsAttack 26 = .ok (.iconst 0, 1) := by decide +kernel
theorem dX7_findsAttack_27 : decode cX7_findsAttack 27 = .ok (.invokevirtual 331, 3) := by decide +kernel
theorem dX7_findsAttack_30 : decode cX7_findsAttack 30 = .ok (.ifCond .ne 14, 3) := by decide +kernel
theorem dX7_findsAttack_33 : decode cX7_findsAttack 33 = .ok (.aload_n 0, 1) := by decide +kernel
theorem dX7_findsAttack_34 : decode cX7_findsAttack 34 = .ok (.iload_n 1, 1) := by decide +kernel
theorem dX7_findsAttack_35 : decode cX7_findsAttack 35 = .ok (.iconst 1, 1) := by decide +kernel
theorem dX7_findsAttack_36 : decode cX7_findsAttack 36 = .ok (.iload_n 3, 1) := by decide +kernel
theorem dX7_findsAttack_37 : decode cX7_findsAttack 37 = .ok (.iconst 0, 1) := by decide +kernel
theorem dX7_findsAttack_38 : decode cX7_findsAttack 38 = .ok (.invokevirtual 331, 3) := by decide +kernel
theorem dX7_findsAttack_41 : decode cX7_findsAttack 41 = .ok (.ifCond .eq 5, 3) := by decide +kernel
theorem dX7_findsAttack_44 : decode cX7_findsAttack 44 = .ok (.iconst 1, 1) := by decide +kernel
theorem dX7_findsAttack_45 : decode cX7_findsAttack 45 = .ok (.ireturn, 1) := by decide +kernel
theorem dX7_findsAttack_46 : decode cX7_findsAttack 46 = .ok (.iconst 1, 1) := by decide +kernel
theorem dX7_findsAttack_47 : decode cX7_findsAttack 47 = .ok (.istore 4, 2) := by decide +kernel
theorem dX7_findsAttack_49 : decode cX7_findsAttack 49 = .ok (.iload 4, 2) := by decide +kernel
theorem dX7_findsAttack_51 : decode cX7_findsAttack 51 = .ok (.bipush 20, 2) := by decide +kernel
theorem dX7_findsAttack_53 : decode cX7_findsAttack 53 = .ok (.if_icmp .gt 23, 3) := by decide +kernel
theorem dX7_findsAttack_56 : decode cX7_findsAttack 56 = .ok (.aload_n 0, 1) := by decide +kernel
theorem dX7_findsAttack_57 : decode cX7_findsAttack 57 = .ok (.iload_n 1, 1) := by decide +kernel
theorem dX7_findsAttack_58 : decode cX7_findsAttack 58 = .ok (.iconst 2, 1) := by decide +kernel
theorem dX7_findsAttack_59 : decode cX7_findsAttack 59 = .ok (.iload_n 3, 1) := by decide +kernel
theorem dX7_findsAttack_60 : decode cX7_findsAttack 60 = .ok (.iload 4, 2) := by decide +kernel
theorem dX7_findsAttack_62 : decode cX7_findsAttack 62 = .ok (.invokevirtual 331, 3) := by decide +kernel
theorem dX7_findsAttack_65 : decode cX7_findsAttack 65 = .ok (.ifCond .eq 5, 3) := by decide +kernel
theorem dX7_findsAttack_68 : decode cX7_findsAttack 68 = .ok (.iconst 1, 1) := by decide +kernel
theorem dX7_findsAttack_69 : decode cX7_findsAttack 69 = .ok (.ireturn, 1) := by decide +kernel
theorem dX7_findsAttack_70 : decode cX7_findsAttack 70 = .ok (.iinc 4 1, 3) := by decide +kernel
theorem dX7_findsAttack_73 : decode cX7_findsAttack 73 = .ok (.goto (-24), 3) := by decide +kernel
theorem dX7_findsAttack_76 : decode cX7_findsAttack 76 = .ok (.iinc 3 1, 3) := by decide +kernel
theorem dX7_findsAttack_79 : decode cX7_findsAttack 79 = .ok (.goto (-62), 3) := by decide +kernel
theorem dX7_findsAttack_82 : decode cX7_findsAttack 82 = .ok (.iconst 0, 1) := by decide +kernel
theorem dX7_findsAttack_83 : decode cX7_findsAttack 83 = .ok (.ireturn, 1) := by decide +kernel
theorem dX7_attack_0 : decode cX7_attack 0 = .ok (.aload_n 0, 1) := by decide +kernel
theorem dX7_attack_1 : decode cX7_attack 1 = .ok (.iconst 0, 1) := by decide +kernel
theorem dX7_attack_2 : decode cX7_attack 2 = .ok (.putfield 65, 3) := by decide +kernel
theorem dX7_attack_5 : decode cX7_attack 5 = .ok (.aload_n 0, 1) := by decide +kernel
theorem dX7_attack_6 : decode cX7_attack 6 = .ok (.iload_n 1, 1) := by decide +kernel
theorem dX7_attack_7 : decode cX7_attack 7 = .ok (.iconst 1, 1) := by decide +kernel
theorem dX7_attack_8 : decode cX7_attack 8 = .ok (.invokevirtual 282, 3) := by decide +kernel
theorem dX7_attack_11 : decode cX7_attack 11 = .ok (.ifCond .ne 25, 3) := by decide +kernel
theorem dX7_attack_14 : decode cX7_attack 14 = .ok (.aload_n 0, 1) := by decide +kernel
theorem dX7_attack_15 : decode cX7_attack 15 = .ok (.iload_n 2, 1) := by decide +kernel
theorem dX7_attack_16 : decode cX7_attack 16 = .ok (.iconst 0, 1) := by decide +kernel
theorem dX7_attack_17 : decode cX7_attack 17 = .ok (.iconst 2, 1) := by decide +kernel
theorem dX7_attack_18 : decode cX7_attack 18 = .ok (.invokestatic 94, 3) := by decide +kernel
theorem dX7_attack_21 : decode cX7_attack 21 = .ok (.ifCond .ne 7, 3) := by decide +kernel
theorem dX7_attack_24 : decode cX7_attack 24 = .ok (.iconst 1, 1) := by decide +kernel
theorem dX7_attack_25 : decode cX7_attack 25 = .ok (.goto 4, 3) := by decide +kernel
theorem dX7_attack_28 : decode cX7_attack 28 = .ok (.iconst 0, 1) := by decide +kernel
theorem dX7_attack_29 : decode cX7_attack 29 = .ok (.iconst 1, 1) := by decide +kernel
theorem dX7_attack_30 : decode cX7_attack 30 = .ok (.invokevirtual 184, 3) := by decide +kernel
theorem dX7_attack_33 : decode cX7_attack 33 = .ok (.ifCond .eq 5, 3) := by decide +kernel
theorem dX7_attack_36 : decode cX7_attack 36 = .ok (.iconst 0, 1) := by decide +kernel
theorem dX7_attack_37 : decode cX7_attack 37 = .ok (.ireturn, 1) := by decide +kernel
theorem dX7_attack_38 : decode cX7_attack 38 = .ok (.aload_n 0, 1) := by decide +kernel
theorem dX7_attack_39 : decode cX7_attack 39 = .ok (.iload_n 1, 1) := by decide +kernel
theorem dX7_attack_40 : decode cX7_attack 40 = .ok (.invokevirtual 335, 3) := by decide +kernel
theorem dX7_attack_43 : decode cX7_attack 43 = .ok (.ifCond .ne 5, 3) := by decide +kernel
theorem dX7_attack_46 : decode cX7_attack 46 = .ok (.iconst (-1), 1) := by decide +kernel
theorem dX7_attack_47 : decode cX7_attack 47 = .ok (.ireturn, 1) := by decide +kernel
theorem dX7_attack_48 : decode cX7_attack 48 = .ok (.iload_n 2, 1) := by decide +kernel
theorem dX7_attack_49 : decode cX7_attack 49 = .ok (.ifCond .ne 10, 3) := by decide +kernel
theorem dX7_attack_52 : decode cX7_attack 52 = .ok (.aload_n 0, 1) := by decide +kernel
theorem dX7_attack_53 : decode cX7_attack 53 = .ok (.getfield 319, 3) := by decide +kernel
theorem dX7_attack_56 : decode cX7_attack 56 = .ok (.goto 19, 3) := by decide +kernel
theorem dX7_attack_59 : decode cX7_attack 59 = .ok (.iload_n 2, 1) := by decide +kernel
theorem dX7_attack_60 : decode cX7_attack 60 = .ok (.iconst 1, 1) := by decide +kernel
theorem dX7_attack_61 : decode cX7_attack 61 = .ok (.if_icmp .ne 10, 3) := by decide +kernel
theorem dX7_attack_64 : decode cX7_attack 64 = .ok (.aload_n 0, 1) := by decide +kernel
theorem dX7_attack_65 : decode cX7_attack 65 = .ok (.getfield 322, 3) := by decide +kernel
theorem dX7_attack_68 : decode cX7_attack 68 = .ok (.goto 7, 3) := by decide +kernel
theorem dX7_attack_71 : decode cX7_attack 71 = .ok (.aload_n 0, 1) := by decide +kernel
theorem dX7_attack_72 : decode cX7_attack 72 = .ok (.getfield 325, 3) := by decide +kernel
theorem dX7_attack_75 : decode cX7_attack 75 = .ok (.ireturn, 1) := by decide +kernel
theorem dX7_weakPoints_0 : decode cX7_weakPoints 0 = .ok (.aload_n 0, 1) := by decide +kernel
theorem dX7_weakPoints_1 : decode cX7_weakPoints 1 = .ok (.iconst 0, 1) := by decide +kernel
theorem dX7_weakPoints_2 : decode cX7_weakPoints 2 = .ok (.putfield 65, 3) := by decide +kernel
theorem dX7_weakPoints_5 : decode cX7_weakPoints 5 = .ok (.aload_n 0, 1) := by decide +kernel
theorem dX7_weakPoints_6 : decode cX7_weakPoints 6 = .ok (.iload_n 1, 1) := by decide +kernel
theorem dX7_weakPoints_7 : decode cX7_weakPoints 7 = .ok (.iconst 1, 1) := by decide +kernel
theorem dX7_weakPoints_8 : decode cX7_weakPoints 8 = .ok (.invokevirtual 282, 3) := by decide +kernel
theorem dX7_weakPoints_11 : decode cX7_weakPoints 11 = .ok (.ifCond .ne 11, 3) := by decide +kernel
theorem dX7_weakPoints_14 : decode cX7_weakPoints 14 = .ok (.aload_n 0, 1) := by decide +kernel
theorem dX7_weakPoints_15 : decode cX7_weakPoints 15 = .ok (.iload_n 1, 1) := by decide +kernel
theorem dX7_weakPoints_16 : decode cX7_weakPoints 16 = .ok (.invokevirtual 328, 3) := by decide +kernel
theorem dX7_weakPoints_19 : decode cX7_weakPoints 19 = .ok (.ifCond .eq 5, 3) := by decide +kernel
theorem dX7_weakPoints_22 : decode cX7_weakPoints 22 = .ok (.iconst 0, 1) := by decide +kernel
theorem dX7_weakPoints_23 : decode cX7_weakPoints 23 = .ok (.ireturn, 1) := by decide +kernel
theorem dX7_weakPoints_24 : decode cX7_weakPoints 24 = .ok (.iconst 0, 1) := by decide +kernel
theorem dX7_weakPoints_25 : decode cX7_weakPoints 25 = .ok (.istore_n 2, 1) := by decide +kernel
theorem dX7_weakPoints_26 : decode cX7_weakPoints 26 = .ok (.iconst 0, 1) := by decide +kernel
theorem dX7_weakPoints_27 : decode cX7_weakPoints 27 = .ok (.istore_n 3, 1) := by decide +kernel
theorem dX7_weakPoints_28 : decode cX7_weakPoints 28 = .ok (.iload_n 3, 1) := by decide +kernel
theorem dX7_weakPoints_29 : decode cX7_weakPoints 29 = .ok (.bipush 120, 2) := by decide +kernel
theorem dX7_weakPoints_31 : decode cX7_weakPoints 31 = .ok (.if_icmp .ge 36, 3) := by decide +kernel
theorem dX7_weakPoints_34 : decode cX7_weakPoints 34 = .ok (.aload_n 0, 1) := by decide +kernel
theorem dX7_weakPoints_35 : decode cX7_weakPoints 35 = .ok (.iconst 0, 1) := by decide +kernel
theorem dX7_weakPoints_36 : decode cX7_weakPoints 36 = .ok (.iload_n 3, 1) := by decide +kernel
theorem dX7_weakPoints_37 : decode cX7_weakPoints 37 = .ok (.iconst 0, 1) := by decide +kernel
theorem dX7_weakPoints_38 : decode cX7_weakPoints 38 = .ok (.invokevirtual 315, 3) := by decide +kernel
theorem dX7_weakPoints_41 : decode cX7_weakPoints 41 = .ok (.iload_n 2, 1) := by decide +kernel
theorem dX7_weakPoints_42 : decode cX7_weakPoints 42 = .ok (.aload_n 0, 1) := by decide +kernel
theorem dX7_weakPoints_43 : decode cX7_weakPoints 43 = .ok (.aload_n 0, 1) := by decide +kernel
theorem dX7_weakPoints_44 : decode cX7_weakPoints 44 = .ok (.getfield 27, 3) := by decide +kernel
theorem dX7_weakPoints_47 : decode cX7_weakPoints 47 = .ok (.iload_n 1, 1) := by decide +kernel
theorem dX7_weakPoints_48 : decode cX7_weakPoints 48 = .ok (.invokevirtual 285, 3) := by decide +kernel
theorem dX7_weakPoints_51 : decode cX7_weakPoints 51 = .ok (.ifCond .eq 7, 3) := by decide +kernel
theorem dX7_weakPoints_54 : decode cX7_weakPoints 54 = .ok (.iconst 1, 1) := by decide +kernel
theorem dX7_weakPoints_55 : decode cX7_weakPoints 55 = .ok (.goto 4, 3) := by decide +kernel
theorem dX7_weakPoints_58 : decode cX7_weakPoints 58 = .ok (.iconst 0, 1) := by decide +kernel
theorem dX7_weakPoints_59 : decode cX7_weakPoints 59 = .ok (.iadd, 1) := by decide +kernel
theorem dX7_weakPoints_60 : decode cX7_weakPoints 60 = .ok (.istore_n 2, 1) := by decide +kernel
theorem dX7_weakPoints_61 : decode cX7_weakPoints 61 = .ok (.iinc 3 1, 3) := by decide +kernel
theorem dX7_weakPoints_64 : decode cX7_weakPoints 64 = .ok (.goto (-36), 3) := by decide +kernel
theorem dX7_weakPoints_67 : decode cX7_weakPoints 67 = .ok (.iload_n 2, 1) := by decide +kernel
theorem dX7_weakPoints_68 : decode cX7_weakPoints 68 = .ok (.ireturn, 1) := by decide +kernel
theorem dX7_timerFor_0 : decode cX7_timerFor 0 = .ok (.aload_n 0, 1) := by decide +kernel
theorem dX7_timerFor_1 : decode cX7_timerFor 1 = .ok (.iconst 0, 1) := by decide +kernel
theorem dX7_timerFor_2 : decode cX7_timerFor 2 = .ok (.putfield 65, 3) := by decide +kernel
theorem dX7_timerFor_5 : decode cX7_timerFor 5 = .ok (.aload_n 0, 1) := by decide +kernel
theorem dX7_timerFor_6 : decode cX7_timerFor 6 = .ok (.iload_n 1, 1) := by decide +kernel
theorem dX7_timerFor_7 : decode cX7_timerFor 7 = .ok (.iconst 1, 1) := by decide +kernel
theorem dX7_timerFor_8 : decode cX7_timerFor 8 = .ok (.invokevirtual 282, 3) := by decide +kernel
theorem dX7_timerFor_11 : decode cX7_timerFor 11 = .ok (.ifCond .eq 5, 3) := by decide +kernel
theorem dX7_timerFor_14 : decode cX7_timerFor 14 = .ok (.iconst 0, 1) := by decide +kernel
theorem dX7_timerFor_15 : decode cX7_timerFor 15 = .ok (.ireturn, 1) := by decide +kernel
theorem dX7_timerFor_16 : decode cX7_timerFor 16 = .ok (.aload_n 0, 1) := by decide +kernel
theorem dX7_timerFor_17 : decode cX7_timerFor 17 = .ok (.getfield 7, 3) := by decide +kernel
theorem dX7_timerFor_20 : decode cX7_timerFor 20 = .ok (.iconst 0, 1) := by decide +kernel
theorem dX7_timerFor_21 : decode cX7_timerFor 21 = .ok (.aload_n 0, 1) := by decide +kernel
theorem dX7_timerFor_22 : decode cX7_timerFor 22 = .ok (.getfield 27, 3) := by decide +kernel
theorem dX7_timerFor_25 : decode cX7_timerFor 25 = .ok (.iconst 0, 1) := by decide +kernel
theorem dX7_timerFor_26 : decode cX7_timerFor 26 = .ok (.invokestatic 194, 3) := by decide +kernel
theorem dX7_timerFor_29 : decode cX7_timerFor 29 = .ok (.iconst 1, 1) := by decide +kernel
theorem dX7_timerFor_30 : decode cX7_timerFor 30 = .ok (.istore_n 2, 1) := by decide +kernel
theorem dX7_timerFor_31 : decode cX7_timerFor 31 = .ok (.iload_n 2, 1) := by decide +kernel
theorem dX7_timerFor_32 : decode cX7_timerFor 32 = .ok (.bipush 20, 2) := by decide +kernel
theorem dX7_timerFor_34 : decode cX7_timerFor 34 = .ok (.if_icmp .gt 30, 3) := by decide +kernel
theorem dX7_timerFor_37 : decode cX7_timerFor 37 = .ok (.aload_n 0, 1) := by decide +kernel
theorem dX7_timerFor_38 : decode cX7_timerFor 38 = .ok (.getfield 27, 3) := by decide +kernel
theorem dX7_timerFor_41 : decode cX7_timerFor 41 = .ok (.iconst 4, 1) := by decide +kernel
theorem dX7_timerFor_42 : decode cX7_timerFor 42 = .ok (.iload_n 2, 1) := by decide +kernel
theorem dX7_timerFor_43 : decode cX7_timerFor 43 = .ok (.iastore, 1) := by decide +kernel
theorem dX7_timerFor_44 : decode cX7_timerFor 44 = .ok (.aload_n 0, 1) := by decide +kernel
theorem dX7_timerFor_45 : decode cX7_timerFor 45 = .ok (.aload_n 0, 1) := by decide +kernel
theorem dX7_timerFor_46 : decode cX7_timerFor 46 = .ok (.getfield 27, 3) := by decide +kernel
theorem dX7_timerFor_49 : decode cX7_timerFor 49 = .ok (.iload_n 1, 1) := by decide +kernel
theorem dX7_timerFor_50 : decode cX7_timerFor 50 = .ok (.invokevirtual 285, 3) := by decide +kernel
theorem dX7_timerFor_53 : decode cX7_timerFor 53 = .ok (.ifCond .ne 5, 3) := by decide +kernel
theorem dX7_timerFor_56 : decode cX7_timerFor 56 = .ok (.iload_n 2, 1) := by decide +kernel
theorem dX7_timerFor_57 : decode cX7_timerFor 57 = .ok (.ireturn, 1) := by decide +kernel
theorem dX7_timerFor_58 : decode cX7_timerFor 58 = .ok (.iinc 2 1, 3) := by decide +kernel
theorem dX7_timerFor_61 : decode cX7_timerFor 61 = .ok (.goto (-30), 3) := by decide +kernel
theorem dX7_timerFor_64 : decode cX7_timerFor 64 = .ok (.iconst (-1), 1) := by decide +kernel
theorem dX7_timerFor_65 : decode cX7_timerFor 65 = .ok (.ireturn, 1) := by decide +kernel
theorem dX7_isRecorded_0 : decode cX7_isRecorded 0 = .ok (.aload_n 0, 1) := by decide +kernel
theorem dX7_isRecorded_1 : decode cX7_isRecorded 1 = .ok (.iconst 0, 1) := by decide +kernel
theorem dX7_isRecorded_2 : decode cX7_isRecorded 2 = .ok (.putfield 65, 3) := by decide +kernel
theorem dX7_isRecorded_5 : decode cX7_isRecorded 5 = .ok (.iload_n 1, 1) := by decide +kernel
theorem dX7_isRecorded_6 : decode cX7_isRecorded 6 = .ok (.iload_n 2, 1) := by decide +kernel
theorem dX7_isRecorded_7 : decode cX7_isRecorded 7 = .ok (.invokestatic 289, 3) := by decide +kernel
theorem dX7_isRecorded_10 : decode cX7_isRecorded 10 = .ok (.ifCond .eq 25, 3) := by decide +kernel
theorem dX7_isRecorded_13 : decode cX7_isRecorded 13 = .ok (.aload_n 0, 1) := by decide +kernel
theorem dX7_isRecorded_14 : decode cX7_isRecorded 14 = .ok (.getfield 7, 3) := by decide +kernel
theorem dX7_isRecorded_17 : decode cX7_isRecorded 17 = .ok (.bipush 39, 2) := by decide +kernel
theorem dX7_isRecorded_19 : decode cX7_isRecorded 19 = .ok (.bipush 16, 2) := by decide +kernel
theorem dX7_isRecorded_21 : decode cX7_isRecorded 21 = .ok (.iload_n 1, 1) := by decide +kernel
theorem dX7_isRecorded_22 : decode cX7_isRecorded 22 = .ok (.imul, 1) := by decide +kernel
theorem dX7_isRecorded_23 : decode cX7_isRecorded 23 = .ok (.iadd, 1) := by decide +kernel
theorem dX7_isRecorded_24 : decode cX7_isRecorded 24 = .ok (.iload_n 2, 1) := by decide +kernel
theorem dX7_isRecorded_25 : decode cX7_isRecorded 25 = .ok (.iadd, 1) := by decide +kernel
theorem dX7_isRecorded_26 : decode cX7_isRecorded 26 = .ok (.iaload, 1) := by decide +kernel
theorem dX7_isRecorded_27 : decode cX7_isRecorded 27 = .ok (.iconst 1, 1) := by decide +kernel
theorem dX7_isRecorded_28 : decode cX7_isRecorded 28 = .ok (.if_icmp .ne 7, 3) := by decide +kernel
theorem dX7_isRecorded_31 : decode cX7_isRecorded 31 = .ok (.iconst 1, 1) := by decide +kernel
theorem dX7_isRecorded_32 : decode cX7_isRecorded 32 = .ok (.goto 4, 3) := by decide +kernel
theorem dX7_isRecorded_35 : decode cX7_isRecorded 35 = .ok (.iconst 0, 1) := by decide +kernel
theorem dX7_isRecorded_36 : decode cX7_isRecorded 36 = .ok (.ireturn, 1) := by decide +kernel
theorem dX7_addFault_0 : decode cX7_addFault 0 = .ok (.aload_n 0, 1) := by decide +kernel
theorem dX7_addFault_1 : decode cX7_addFault 1 = .ok (.iconst 0, 1) := by decide +kernel
theorem dX7_addFault_2 : decode cX7_addFault 2 = .ok (.putfield 65, 3) := by decide +kernel
theorem dX7_addFault_5 : decode cX7_addFault 5 = .ok (.iload_n 1, 1) := by decide +kernel
theorem dX7_addFault_6 : decode cX7_addFault 6 = .ok (.iconst 0, 1) := by decide +kernel
theorem dX7_addFault_7 : decode cX7_addFault 7 = .ok (.iconst 2, 1) := by decide +kernel
theorem dX7_addFault_8 : decode cX7_addFault 8 = .ok (.invokestatic 94, 3) := by decide +kernel
theorem dX7_addFault_11 : decode cX7_addFault 11 = .ok (.ifCond .eq 39, 3) := by decide +kernel
theorem dX7_addFault_14 : decode cX7_addFault 14 = .ok (.iload_n 2, 1) := by decide +kernel
theorem dX7_addFault_15 : decode cX7_addFault 15 = .ok (.iconst 0, 1) := by decide +kernel
theorem dX7_addFault_16 : decode cX7_addFault 16 = .ok (.bipush 119, 2) := by decide +kernel
theorem dX7_addFault_18 : decode cX7_addFault 18 = .ok (.invokestatic 94, 3) := by decide +kernel
theorem dX7_addFault_21 : decode cX7_addFault 21 = .ok (.ifCond .eq 29, 3) := by decide +kernel
theorem dX7_addFault_24 : decode cX7_addFault 24 = .ok (.iload_n 1, 1) := by decide +kernel
theorem dX7_addFault_25 : decode cX7_addFault 25 = .ok (.iconst 2, 1) := by decide +kernel
theorem dX7_addFault_26 : decode cX7_addFault 26 = .ok (.if_icmp .ne 16, 3) := by decide +kernel
theorem dX7_addFault_29 : decode cX7_addFault 29 = .ok (.iload_n 3, 1) := by decide +kernel
theorem dX7_addFault_30 : decode cX7_addFault 30 = .ok (.iconst 1, 1) := by decide +kernel
theorem dX7_addFault_31 : decode cX7_addFault 31 = .ok (.bipush 20, 2) := by decide +kernel
theorem dX7_addFault_33 : decode cX7_addFault 33 = .ok (.invokestatic 94, 3) := by decide +kernel
theorem dX7_addFault_36 : decode cX7_addFault 36 = .ok (.ifCond .eq 14, 3) := by decide +kernel
theorem dX7_addFault_39 : decode cX7_addFault 39 = .ok (.goto 7, 3) := by decide +kernel
theorem dX7_addFault_42 : decode cX7_addFault 42 = .ok (.iload_n 3, 1) := by decide +kernel
theorem dX7_addFault_43 : decode cX7_addFault 43 = .ok (.ifCond .ne 7, 3) := by decide +kernel
theorem dX7_addFault_46 : decode cX7_addFault 46 = .ok (.iconst 1, 1) := by decide +kernel
theorem dX7_addFault_47 : decode cX7_addFault 47 = .ok (.goto 4, 3) := by decide +kernel
theorem dX7_addFault_50 : decode cX7_addFault 50 = .ok (.iconst 0, 1) := by decide +kernel
theorem dX7_addFault_51 : decode cX7_addFault 51 = .ok (.istore 4, 2) := by decide +kernel
theorem dX7_addFault_53 : decode cX7_addFault 53 = .ok (.aload_n 0, 1) := by decide +kernel
theorem dX7_addFault_54 : decode cX7_addFault 54 = .ok (.iload 4, 2) := by decide +kernel
theorem dX7_addFault_56 : decode cX7_addFault 56 = .ok (.ifCond .ne 7, 3) := by decide +kernel
theorem dX7_addFault_59 : decode cX7_addFault 59 = .ok (.iconst 1, 1) := by decide +kernel
theorem dX7_addFault_60 : decode cX7_addFault 60 = .ok (.goto 4, 3) := by decide +kernel
theorem dX7_addFault_63 : decode cX7_addFault 63 = .ok (.iconst 0, 1) := by decide +kernel
theorem dX7_addFault_64 : decode cX7_addFault 64 = .ok (.iconst 1, 1) := by decide +kernel
theorem dX7_addFault_65 : decode cX7_addFault 65 = .ok (.invokevirtual 184, 3) := by decide +kernel
theorem dX7_addFault_68 : decode cX7_addFault 68 = .ok (.ifCond .ne 41, 3) := by decide +kernel
theorem dX7_addFault_71 : decode cX7_addFault 71 = .ok (.aload_n 0, 1) := by decide +kernel
theorem dX7_addFault_72 : decode cX7_addFault 72 = .ok (.aload_n 0, 1) := by decide +kernel
theorem dX7_addFault_73 : decode cX7_addFault 73 = .ok (.getfield 7, 3) := by decide +kernel
theorem dX7_addFault_76 : decode cX7_addFault 76 = .ok (.iload_n 1, 1) := by decide +kernel
theorem dX7_addFault_77 : decode cX7_addFault 77 = .ok (.iload_n 2, 1) := by decide +kernel
theorem dX7_addFault_78 : decode cX7_addFault 78 = .ok (.invokestatic 137, 3) := by decide +kernel
theorem dX7_addFault_81 : decode cX7_addFault 81 = .ok (.iconst (-1), 1) := by decide +kernel
theorem dX7_addFault_82 : decode cX7_addFault 82 = .ok (.if_icmp .ne 15, 3) := by decide +kernel
theorem dX7_addFault_85 : decode cX7_addFault 85 = .ok (.aload_n 0, 1) := by decide +kernel
theorem dX7_addFault_86 : decode cX7_addFault 86 = .ok (.getfield 7, 3) := by decide +kernel
theorem dX7_addFault_89 : decode cX7_addFault 89 = .ok (.bipush 8, 2) := by decide +kernel
theorem dX7_addFault_91 : decode cX7_addFault 91 = .ok (.iaload, 1) := by decide +kernel
theorem dX7_addFault_92 : decode cX7_addFault 92 = .ok (.bipush 10, 2) := by decide +kernel
theorem dX7_addFault_94 : decode cX7_addFault 94 = .ok (.if_icmp .ne 7, 3) := by decide +kernel
theorem dX7_addFault_97 : decode cX7_addFault 97 = .ok (.iconst 1, 1) := by decide +kernel
theorem dX7_addFault_98 : decode cX7_addFault 98 = .ok (.goto 4, 3) := by decide +kernel
theorem dX7_addFault_101 : decode cX7_addFault 101 = .ok (.iconst 0, 1) := by decide +kernel
theorem dX7_addFault_102 : decode cX7_addFault 102 = .ok (.iconst 2, 1) := by decide +kernel
theorem dX7_addFault_103 : decode cX7_addFault 103 = .ok (.invokevirtual 184, 3) := by decide +kernel
theorem dX7_addFault_106 : decode cX7_addFault 106 = .ok (.ifCond .eq 5, 3) := by decide +kernel
theorem dX7_addFault_109 : decode cX7_addFault 109 = .ok (.iconst 0, 1) := by decide +kernel
theorem dX7_addFault_110 : decode cX7_addFault 110 = .ok (.ireturn, 1) := by decide +kernel
theorem dX7_addFault_111 : decode cX7_addFault 111 = .ok (.aload_n 0, 1) := by decide +kernel
theorem dX7_addFault_112 : decode cX7_addFault 112 = .ok (.invokevirtual 338, 3) := by decide +kernel
theorem dX7_addFault_115 : decode cX7_addFault 115 = .ok (.aload_n 0, 1) := by decide +kernel
theorem dX7_addFault_116 : decode cX7_addFault 116 = .ok (.getfield 7, 3) := by decide +kernel
theorem dX7_addFault_119 : decode cX7_addFault 119 = .ok (.iload_n 1, 1) := by decide +kernel
theorem dX7_addFault_120 : decode cX7_addFault 120 = .ok (.iload_n 2, 1) := by decide +kernel
theorem dX7_addFault_121 : decode cX7_addFault 121 = .ok (.iload_n 3, 1) := by decide +kernel
theorem dX7_addFault_122 : decode cX7_addFault 122 = .ok (.invokestatic 141, 3) := by decide +kernel
theorem dX7_addFault_125 : decode cX7_addFault 125 = .ok (.ireturn, 1) := by decide +kernel
theorem dX7_removeFault_0 : decode cX7_removeFault 0 = .ok (.aload_n 0, 1) := by decide +kernel
theorem dX7_removeFault_1 : decode cX7_removeFault 1 = .ok (.iload_n 1, 1) := by decide +kernel
theorem dX7_removeFault_2 : decode cX7_removeFault 2 = .ok (.invokevirtual 267, 3) := by decide +kernel
theorem dX7_removeFault_5 : decode cX7_removeFault 5 = .ok (.ifCond .eq 5, 3) := by decide +kernel
theorem dX7_removeFault_8 : decode cX7_removeFault 8 = .ok (.iconst 0, 1) := by decide +kernel
theorem dX7_removeFault_9 : decode cX7_removeFault 9 = .ok (.ireturn, 1) := by decide +kernel
theorem dX7_removeFault_10 : decode cX7_removeFault 10 = .ok (.aload_n 0, 1) := by decide +kernel
theorem dX7_removeFault_11 : decode cX7_removeFault 11 = .ok (.invokevirtual 338, 3) := by decide +kernel
theorem dX7_removeFault_14 : decode cX7_removeFault 14 = .ok (.aload_n 0, 1) := by decide +kernel
theorem dX7_removeFault_15 : decode cX7_removeFault 15 = .ok (.getfield 7, 3) := by decide +kernel
theorem dX7_removeFault_18 : decode cX7_removeFault 18 = .ok (.iload_n 1, 1) := by decide +kernel
theorem dX7_removeFault_19 : decode cX7_removeFault 19 = .ok (.invokestatic 292, 3) := by decide +kernel
theorem dX7_removeFault_22 : decode cX7_removeFault 22 = .ok (.aload_n 0, 1) := by decide +kernel
theorem dX7_removeFault_23 : decode cX7_removeFault 23 = .ok (.getfield 7, 3) := by decide +kernel
theorem dX7_removeFault_26 : decode cX7_removeFault 26 = .ok (.bipush 8, 2) := by decide +kernel
theorem dX7_removeFault_28 : decode cX7_removeFault 28 = .ok (.iaload, 1) := by decide +kernel
theorem dX7_removeFault_29 : decode cX7_removeFault 29 = .ok (.ireturn, 1) := by decide +kernel
theorem dX7_clearFaults_0 : decode cX7_clearFaults 0 = .ok (.aload_n 0, 1) := by decide +kernel
theorem dX7_clearFaults_1 : decode cX7_clearFaults 1 = .ok (.iconst 0, 1) := by decide +kernel
theorem dX7_clearFaults_2 : decode cX7_clearFaults 2 = .ok (.putfield 65, 3) := by decide +kernel
theorem dX7_clearFaults_5 : decode cX7_clearFaults 5 = .ok (.aload_n 0, 1) := by decide +kernel
theorem dX7_clearFaults_6 : decode cX7_clearFaults 6 = .ok (.invokevirtual 338, 3) := by decide +kernel
theorem dX7_clearFaults_9 : decode cX7_clearFaults 9 = .ok (.aload_n 0, 1) := by decide +kernel
theorem dX7_clearFaults_10 : decode cX7_clearFaults 10 = .ok (.getfield 7, 3) := by decide +kernel
theorem dX7_clearFaults_13 : decode cX7_clearFaults 13 = .ok (.bipush 8, 2) := by decide +kernel
theorem dX7_clearFaults_15 : decode cX7_clearFaults 15 = .ok (.iaload, 1) := by decide +kernel
theorem dX7_clearFaults_16 : decode cX7_clearFaults 16 = .ok (.istore_n 1, 1) := by decide +kernel
theorem dX7_clearFaults_17 : decode cX7_clearFaults 17 = .ok (.aload_n 0, 1) := by decide +kernel
theorem dX7_clearFaults_18 : decode cX7_clearFaults 18 = .ok (.getfield 7, 3) := by decide +kernel
theorem dX7_clearFaults_21 : decode cX7_clearFaults 21 = .ok (.bipush 8, 2) := by decide +kernel
theorem dX7_clearFaults_23 : decode cX7_clearFaults 23 = .ok (.iconst 0, 1) := by decide +kernel
theorem dX7_clearFaults_24 : decode cX7_clearFaults 24 = .ok (.iastore, 1) := by decide +kernel
theorem dX7_clearFaults_25 : decode cX7_clearFaults 25 = .ok (.iload_n 1, 1) := by decide +kernel
theorem dX7_clearFaults_26 : decode cX7_clearFaults 26 = .ok (.ireturn, 1) := by decide +kernel
theorem dX7_set_0 : decode cX7_set 0 = .ok (.aload_n 0, 1) := by decide +kernel
theorem dX7_set_1 : decode cX7_set 1 = .ok (.iconst 0, 1) := by decide +kernel
theorem dX7_set_2 : decode cX7_set 2 = .ok (.putfield 65, 3) := by decide +kernel
theorem dX7_set_5 : decode cX7_set 5 = .ok (.aload_n 0, 1) := by decide +kernel
theorem dX7_set_6 : decode cX7_set 6 = .ok (.iload_n 1, 1) := by decide +kernel
theorem dX7_set_7 : decode cX7_set 7 = .ok (.iconst 0, 1) := by decide +kernel
theorem dX7_set_8 : decode cX7_set 8 = .ok (.bipush 7, 2) := by decide +kernel
theorem dX7_set_10 : decode cX7_set 10 = .ok (.invokestatic 94, 3) := by decide +kernel
theorem dX7_set_13 : decode cX7_set 13 = .ok (.ifCond .eq 18, 3) := by decide +kernel
theorem dX7_set_16 : decode cX7_set 16 = .ok (.iload_n 2, 1) := by decide +kernel
theorem dX7_set_17 : decode cX7_set 17 = .ok (.iload_n 1, 1) := by decide +kernel
theorem dX7_set_18 : decode cX7_set 18 = .ok (.invokestatic 120, 3) := by decide +kernel
theorem dX7_set_21 : decode cX7_set 21 = .ok (.iload_n 1, 1) := by decide +kernel
theorem dX7_set_22 : decode cX7_set 22 = .ok (.invokestatic 123, 3) := by decide +kernel
theorem dX7_set_25 : decode cX7_set 25 = .ok (.invokestatic 94, 3) := by decide +kernel
theorem dX7_set_28 : decode cX7_set 28 = .ok (.ifCond .ne 7, 3) := by decide +kernel
theorem dX7_set_31 : decode cX7_set 31 = .ok (.iconst 1, 1) := by decide +kernel
theorem dX7_set_32 : decode cX7_set 32 = .ok (.goto 4, 3) := by decide +kernel
theorem dX7_set_35 : decode cX7_set 35 = .ok (.iconst 0, 1) := by decide +kernel
theorem dX7_set_36 : decode cX7_set 36 = .ok (.iconst 1, 1) := by decide +kernel
theorem dX7_set_37 : decode cX7_set 37 = .ok (.invokevirtual 184, 3) := by decide +kernel
theorem dX7_set_40 : decode cX7_set 40 = .ok (.ifCond .eq 5, 3) := by decide +kernel
theorem dX7_set_43 : decode cX7_set 43 = .ok (.iconst 0, 1) := by decide +kernel
theorem dX7_set_44 : decode cX7_set 44 = .ok (.ireturn, 1) := by decide +kernel
theorem dX7_set_45 : decode cX7_set 45 = .ok (.aload_n 0, 1) := by decide +kernel
theorem dX7_set_46 : decode cX7_set 46 = .ok (.invokevirtual 338, 3) := by decide +kernel
theorem dX7_set_49 : decode cX7_set 49 = .ok (.aload_n 0, 1) := by decide +kernel
theorem dX7_set_50 : decode cX7_set 50 = .ok (.getfield 7, 3) := by decide +kernel
theorem dX7_set_53 : decode cX7_set 53 = .ok (.iload_n 1, 1) := by decide +kernel
theorem dX7_set_54 : decode cX7_set 54 = .ok (.iaload, 1) := by decide +kernel
theorem dX7_set_55 : decode cX7_set 55 = .ok (.istore_n 3, 1) := by decide +kernel
theorem dX7_set_56 : decode cX7_set 56 = .ok (.aload_n 0, 1) := by decide +kernel
theorem dX7_set_57 : decode cX7_set 57 = .ok (.getfield 7, 3) := by decide +kernel
theorem dX7_set_60 : decode cX7_set 60 = .ok (.iload_n 1, 1) := by decide +kernel
theorem dX7_set_61 : decode cX7_set 61 = .ok (.iload_n 2, 1) := by decide +kernel
theorem dX7_set_62 : decode cX7_set 62 = .ok (.iastore, 1) := by decide +kernel
theorem dX7_set_63 : decode cX7_set 63 = .ok (.iload_n 3, 1) := by decide +kernel
theorem dX7_set_64 : decode cX7_set 64 = .ok (.ireturn, 1) := by decide +kernel
theorem dX7_shrink_0 : decode cX7_shrink 0 = .ok (.aload_n 0, 1) := by decide +kernel
theorem dX7_shrink_1 : decode cX7_shrink 1 = .ok (.iconst 0, 1) := by decide +kernel
theorem dX7_shrink_2 : decode cX7_shrink 2 = .ok (.putfield 65, 3) := by decide +kernel
theorem dX7_shrink_5 : decode cX7_shrink 5 = .ok (.aload_n 0, 1) := by decide +kernel
theorem dX7_shrink_6 : decode cX7_shrink 6 = .ok (.iload_n 1, 1) := by decide +kernel
theorem dX7_shrink_7 : decode cX7_shrink 7 = .ok (.iconst 1, 1) := by decide +kernel
theorem dX7_shrink_8 : decode cX7_shrink 8 = .ok (.invokevirtual 282, 3) := by decide +kernel
theorem dX7_shrink_11 : decode cX7_shrink 11 = .ok (.ifCond .eq 5, 3) := by decide +kernel
theorem dX7_shrink_14 : decode cX7_shrink 14 = .ok (.iconst 0, 1) := by decide +kernel
theorem dX7_shrink_15 : decode cX7_shrink 15 = .ok (.ireturn, 1) := by decide +kernel
theorem dX7_shrink_16 : decode cX7_shrink 16 = .ok (.aload_n 0, 1) := by decide +kernel
theorem dX7_shrink_17 : decode cX7_shrink 17 = .ok (.iload_n 1, 1) := by decide +kernel
theorem dX7_shrink_18 : decode cX7_shrink 18 = .ok (.invokevirtual 308, 3) := by decide +kernel
theorem dX7_shrink_21 : decode cX7_shrink 21 = .ok (.istore_n 2, 1) := by decide +kernel
theorem dX7_shrink_22 : decode cX7_shrink 22 = .ok (.aload_n 0, 1) := by decide +kernel
theorem dX7_shrink_23 : decode cX7_shrink 23 = .ok (.iload_n 2, 1) := by decide +kernel
theorem dX7_shrink_24 : decode cX7_shrink 24 = .ok (.iconst (-1), 1) := by decide +kernel
theorem dX7_shrink_25 : decode cX7_shrink 25 = .ok (.if_icmp .ne 7, 3) := by decide +kernel
theorem dX7_shrink_28 : decode cX7_shrink 28 = .ok (.iconst 1, 1) := by decide +kernel
theorem dX7_shrink_29 : decode cX7_shrink 29 = .ok (.goto 4, 3) := by decide +kernel
theorem dX7_shrink_32 : decode cX7_shrink 32 = .ok (.iconst 0, 1) := by decide +kernel
theorem dX7_shrink_33 : decode cX7_shrink 33 = .ok (.iconst 2, 1) := by decide +kernel
theorem dX7_shrink_34 : decode cX7_shrink 34 = .ok (.invokevirtual 184, 3) := by decide +kernel
theorem dX7_shrink_37 : decode cX7_shrink 37 = .ok (.ifCond .eq 5, 3) := by decide +kernel
theorem dX7_shrink_40 : decode cX7_shrink 40 = .ok (.iconst 0, 1) := by decide +kernel
theorem dX7_shrink_41 : decode cX7_shrink 41 = .ok (.ireturn, 1) := by decide +kernel
theorem dX7_shrink_42 : decode cX7_shrink 42 = .ok (.aload_n 0, 1) := by decide +kernel
theorem dX7_shrink_43 : decode cX7_shrink 43 = .ok (.invokevirtual 338, 3) := by decide +kernel
theorem dX7_shrink_46 : decode cX7_shrink 46 = .ok (.aload_n 0, 1) := by decide +kernel
theorem dX7_shrink_47 : decode cX7_shrink 47 = .ok (.iload_n 2, 1) := by decide +kernel
theorem dX7_shrink_48 : decode cX7_shrink 48 = .ok (.invokevirtual 305, 3) := by decide +kernel
theorem dX7_shrink_51 : decode cX7_shrink 51 = .ok (.aload_n 0, 1) := by decide +kernel
theorem dX7_shrink_52 : decode cX7_shrink 52 = .ok (.getfield 27, 3) := by decide +kernel
theorem dX7_shrink_55 : decode cX7_shrink 55 = .ok (.iconst 0, 1) := by decide +kernel
theorem dX7_shrink_56 : decode cX7_shrink 56 = .ok (.aload_n 0, 1) := by decide +kernel
theorem dX7_shrink_57 : decode cX7_shrink 57 = .ok (.getfield 7, 3) := by decide +kernel
theorem dX7_shrink_60 : decode cX7_shrink 60 = .ok (.iconst 0, 1) := by decide +kernel
theorem dX7_shrink_61 : decode cX7_shrink 61 = .ok (.invokestatic 194, 3) := by decide +kernel
theorem dX7_shrink_64 : decode cX7_shrink 64 = .ok (.iconst 0, 1) := by decide +kernel
theorem dX7_shrink_65 : decode cX7_shrink 65 = .ok (.istore_n 3, 1) := by decide +kernel
theorem dX7_shrink_66 : decode cX7_shrink 66 = .ok (.iload_n 3, 1) := by decide +kernel
theorem dX7_shrink_67 : decode cX7_shrink 67 = .ok (.aload_n 0, 1) := by decide +kernel
theorem dX7_shrink_68 : decode cX7_shrink 68 = .ok (.getfield 7, 3) := by decide +kernel
theorem dX7_shrink_71 : decode cX7_shrink 71 = .ok (.bipush 8, 2) := by decide +kernel
theorem dX7_shrink_73 : decode cX7_shrink 73 = .ok (.iaload, 1) := by decide +kernel
theorem dX7_shrink_74 : decode cX7_shrink 74 = .ok (.if_icmp .ge 50, 3) := by decide +kernel
theorem dX7_shrink_77 : decode cX7_shrink 77 = .ok (.aload_n 0, 1) := by decide +kernel
theorem dX7_shrink_78 : decode cX7_shrink 78 = .ok (.iload_n 3, 1) := by decide +kernel
theorem dX7_shrink_79 : decode cX7_shrink 79 = .ok (.iload_n 1, 1) := by decide +kernel
theorem dX7_shrink_80 : decode cX7_shrink 80 = .ok (.invokevirtual 311, 3) := by decide +kernel
theorem dX7_shrink_83 : decode cX7_shrink 83 = .ok (.istore 4, 2) := by decide +kernel
theorem dX7_shrink_85 : decode cX7_shrink 85 = .ok (.aload_n 0, 1) := by decide +kernel
theorem dX7_shrink_86 : decode cX7_shrink 86 = .ok (.getfield 7, 3) := by decide +kernel
theorem dX7_shrink_89 : decode cX7_shrink 89 = .ok (.bipush 9, 2) := by decide +kernel
theorem dX7_shrink_91 : decode cX7_shrink 91 = .ok (.iconst 3, 1) := by decide +kernel
theorem dX7_shrink_92 : decode cX7_shrink 92 = .ok (.iload_n 3, 1) := by decide +kernel
theorem dX7_shrink_93 : decode cX7_shrink 93 = .ok (.imul, 1) := by decide +kernel
theorem dX7_shrink_94 : decode cX7_shrink 94 = .ok (.iadd, 1) := by decide +kernel
theorem dX7_shrink_95 : decode cX7_shrink 95 = .ok (.iconst 2, 1) := by decide +kernel
theorem dX7_shrink_96 : decode cX7_shrink 96 = .ok (.iadd, 1) := by decide +kernel
theorem dX7_shrink_97 : decode cX7_shrink 97 = .ok (.iload 4, 2) := by decide +kernel
theorem dX7_shrink_99 : decode cX7_shrink 99 = .ok (.iconst (-1), 1) := by decide +kernel
theorem dX7_shrink_100 : decode cX7_shrink 100 = .ok (.if_icmp .ne 15, 3) := by decide +kernel
theorem dX7_shrink_103 : decode cX7_shrink 103 = .ok (.aload_n 0, 1) := by decide +kernel
theorem dX7_shrink_104 : decode cX7_shrink 104 = .ok (.getfield 7, 3) := by decide +kernel
theorem dX7_shrink_107 : decode cX7_shrink 107 = .ok (.iload_n 3, 1) := by decide +kernel
theorem dX7_shrink_108 : decode cX7_shrink 108 = .ok (.iconst 2, 1) := by decide +kernel
theorem dX7_shrink_109 : decode cX7_shrink 109 = .ok (.invokestatic 201, 3) := by decide +kernel
theorem dX7_shrink_112 : decode cX7_shrink 112 = .ok (.goto 5, 3) := by decide +kernel
theorem dX7_shrink_115 : decode cX7_shrink 115 = .ok (.iload 4, 2) := by decide +kernel
theorem dX7_shrink_117 : decode cX7_shrink 117 = .ok (.iastore, 1) := by decide +kernel
theorem dX7_shrink_118 : decode cX7_shrink 118 = .ok (.iinc 3 1, 3) := by decide +kernel
theorem dX7_shrink_121 : decode cX7_shrink 121 = .ok (.goto (-55), 3) := by decide +kernel
theorem dX7_shrink_124 : decode cX7_shrink 124 = .ok (.aload_n 0, 1) := by decide +kernel
theorem dX7_shrink_125 : decode cX7_shrink 125 = .ok (.getfield 7, 3) := by decide +kernel
theorem dX7_shrink_128 : decode cX7_shrink 128 = .ok (.bipush 8, 2) := by decide +kernel
theorem dX7_shrink_130 : decode cX7_shrink 130 = .ok (.iaload, 1) := by decide +kernel
theorem dX7_shrink_131 : decode cX7_shrink 131 = .ok (.ireturn, 1) := by decide +kernel
theorem dX7_record_0 : decode cX7_record 0 = .ok (.aload_n 0, 1) := by decide +kernel
theorem dX7_record_1 : decode cX7_record 1 = .ok (.iconst 0, 1) := by decide +kernel
theorem dX7_record_2 : decode cX7_record 2 = .ok (.putfield 65, 3) := by decide +kernel
theorem dX7_record_5 : decode cX7_record 5 = .ok (.aload_n 0, 1) := by decide +kernel
theorem dX7_record_6 : decode cX7_record 6 = .ok (.invokevirtual 338, 3) := by decide +kernel
theorem dX7_record_9 : decode cX7_record 9 = .ok (.aload_n 0, 1) := by decide +kernel
theorem dX7_record_10 : decode cX7_record 10 = .ok (.invokevirtual 264, 3) := by decide +kernel
theorem dX7_record_13 : decode cX7_record 13 = .ok (.istore_n 1, 1) := by decide +kernel
theorem dX7_record_14 : decode cX7_record 14 = .ok (.aload_n 0, 1) := by decide +kernel
theorem dX7_record_15 : decode cX7_record 15 = .ok (.aload_n 0, 1) := by decide +kernel
theorem dX7_record_16 : decode cX7_record 16 = .ok (.getfield 7, 3) := by decide +kernel
theorem dX7_record_19 : decode cX7_record 19 = .ok (.invokevirtual 257, 3) := by decide +kernel
theorem dX7_record_22 : decode cX7_record 22 = .ok (.iconst 0, 1) := by decide +kernel
theorem dX7_record_23 : decode cX7_record 23 = .ok (.istore_n 2, 1) := by decide +kernel
theorem dX7_record_24 : decode cX7_record 24 = .ok (.iload_n 2, 1) := by decide +kernel
theorem dX7_record_25 : decode cX7_record 25 = .ok (.sipush 144, 3) := by decide +kernel
theorem dX7_record_28 : decode cX7_record 28 = .ok (.if_icmp .ge 40, 3) := by decide +kernel
theorem dX7_record_31 : decode cX7_record 31 = .ok (.aload_n 0, 1) := by decide +kernel
theorem dX7_record_32 : decode cX7_record 32 = .ok (.getfield 7, 3) := by decide +kernel
theorem dX7_record_35 : decode cX7_record 35 = .ok (.bipush 39, 2) := by decide +kernel
theorem dX7_record_37 : decode cX7_record 37 = .ok (.iload_n 2, 1) := by decide +kernel
theorem dX7_record_38 : decode cX7_record 38 = .ok (.iadd, 1) := by decide +kernel
theorem dX7_record_39 : decode cX7_record 39 = .ok (.aload_n 0, 1) := by decide +kernel
theorem dX7_record_40 : decode cX7_record 40 = .ok (.getfield 48, 3) := by decide +kernel
theorem dX7_record_43 : decode cX7_record 43 = .ok (.iload_n 2, 1) := by decide +kernel
theorem dX7_record_44 : decode cX7_record 44 = .ok (.baload, 1) := by decide +kernel
theorem dX7_record_45 : decode cX7_record 45 = .ok (.ifCond .eq 7, 3) := by decide +kernel
theorem dX7_record_48 : decode cX7_record 48 = .ok (.iconst 1, 1) := by decide +kernel
theorem dX7_record_49 : decode cX7_record 49 = .ok (.goto 12, 3) := by decide +kernel
theorem dX7_record_52 : decode cX7_record 52 = .ok (.aload_n 0, 1) := by decide +kernel
theorem dX7_record_53 : decode cX7_record 53 = .ok (.getfield 7, 3) := by decide +kernel
theorem dX7_record_56 : decode cX7_record 56 = .ok (.bipush 39, 2) := by decide +kernel
theorem dX7_record_58 : decode cX7_record 58 = .ok (.iload_n 2, 1) := by decide +kernel
theorem dX7_record_59 : decode cX7_record 59 = .ok (.iadd, 1) := by decide +kernel
theorem dX7_record_60 : decode cX7_record 60 = .ok (.iaload, 1) := by decide +kernel
theorem dX7_record_61 : decode cX7_record 61 = .ok (.iastore, 1) := by decide +kernel
theorem dX7_record_62 : decode cX7_record 62 = .ok (.iinc 2 1, 3) := by decide +kernel
theorem dX7_record_65 : decode cX7_record 65 = .ok (.goto (-41), 3) := by decide +kernel
theorem dX7_record_68 : decode cX7_record 68 = .ok (.aload_n 0, 1) := by decide +kernel
theorem dX7_record_69 : decode cX7_record 69 = .ok (.invokevirtual 264, 3) := by decide +kernel
theorem dX7_record_72 : decode cX7_record 72 = .ok (.iload_n 1, 1) := by decide +kernel
theorem dX7_record_73 : decode cX7_record 73 = .ok (.isub, 1) := by decide +kernel
theorem dX7_record_74 : decode cX7_record 74 = .ok (.ireturn, 1) := by decide +kernel
theorem dX7_copies_0 : decode cX7_copies 0 = .ok (.iconst 0, 1) := by decide +kernel
theorem dX7_copies_1 : decode cX7_copies 1 = .ok (.istore 4, 2) := by decide +kernel
theorem dX7_copies_3 : decode cX7_copies 3 = .ok (.iload 4, 2) := by decide +kernel
theorem dX7_copies_5 : decode cX7_copies 5 = .ok (.sipush 183, 3) := by decide +kernel
theorem dX7_copies_8 : decode cX7_copies 8 = .ok (.if_icmp .ge 21, 3) := by decide +kernel
theorem dX7_copies_11 : decode cX7_copies 11 = .ok (.aload_n 2, 1) := by decide +kernel
theorem dX7_copies_12 : decode cX7_copies 12 = .ok (.iload_n 3, 1) := by decide +kernel
theorem dX7_copies_13 : decode cX7_copies 13 = .ok (.iload 4, 2) := by decide +kernel
theorem dX7_copies_15 : decode cX7_copies 15 = .ok (.iadd, 1) := by decide +kernel
theorem dX7_copies_16 : decode cX7_copies 16 = .ok (.aload_n 0, 1) := by decide +kernel
theorem dX7_copies_17 : decode cX7_copies 17 = .ok (.iload_n 1, 1) := by decide +kernel
theorem dX7_copies_18 : decode cX7_copies 18 = .ok (.iload 4, 2) := by decide +kernel
theorem dX7_copies_20 : decode cX7_copies 20 = .ok (.iadd, 1) := by decide +kernel
theorem dX7_copies_21 : decode cX7_copies 21 = .ok (.iaload, 1) := by decide +kernel
theorem dX7_copies_22 : decode cX7_copies 22 = .ok (.iastore, 1) := by decide +kernel
theorem dX7_copies_23 : decode cX7_copies 23 = .ok (.iinc 4 1, 3) := by decide +kernel
theorem dX7_copies_26 : decode cX7_copies 26 = .ok (.goto (-23), 3) := by decide +kernel
theorem dX7_copies_29 : decode cX7_copies 29 = .ok (.return_, 1) := by decide +kernel
theorem dX7_keeps_0 : decode cX7_keeps 0 = .ok (.aload_n 0, 1) := by decide +kernel
theorem dX7_keeps_1 : decode cX7_keeps 1 = .ok (.getfield 198, 3) := by decide +kernel
theorem dX7_keeps_4 : decode cX7_keeps 4 = .ok (.bipush 10, 2) := by decide +kernel
theorem dX7_keeps_6 : decode cX7_keeps 6 = .ok (.if_icmp .ne 52, 3) := by decide +kernel
theorem dX7_keeps_9 : decode cX7_keeps 9 = .ok (.aload_n 0, 1) := by decide +kernel
theorem dX7_keeps_10 : decode cX7_keeps 10 = .ok (.dup, 1) := by decide +kernel
theorem dX7_keeps_11 : decode cX7_keeps 11 = .ok (.getfield 198, 3) := by decide +kernel
theorem dX7_keeps_14 : decode cX7_keeps 14 = .ok (.iconst 1, 1) := by decide +kernel
theorem dX7_keeps_15 : decode cX7_keeps 15 = .ok (.isub, 1) := by decide +kernel
theorem dX7_keeps_16 : decode cX7_keeps 16 = .ok (.putfield 198, 3) := by decide +kernel
theorem dX7_keeps_19 : decode cX7_keeps 19 = .ok (.iconst 0, 1) := by decide +kernel
theorem dX7_keeps_20 : decode cX7_keeps 20 = .ok (.istore_n 1, 1) := by decide +kernel
theorem dX7_keeps_21 : decode cX7_keeps 21 = .ok (.iload_n 1, 1) := by decide +kernel
theorem dX7_keeps_22 : decode cX7_keeps 22 = .ok (.aload_n 0, 1) := by decide +kernel
theorem dX7_keeps_23 : decode cX7_keeps 23 = .ok (.getfield 198, 3) := by decide +kernel
theorem dX7_keeps_26 : decode cX7_keeps 26 = .ok (.if_icmp .ge 32, 3) := by decide +kernel
theorem dX7_keeps_29 : decode cX7_keeps 29 = .ok (.aload_n 0, 1) := by decide +kernel
theorem dX7_keeps_30 : decode cX7_keeps 30 = .ok (.getfield 52, 3) := by decide +kernel
theorem dX7_keeps_33 : decode cX7_keeps 33 = .ok (.sipush 183, 3) := by decide +kernel
theorem dX7_keeps_36 : decode cX7_keeps 36 = .ok (.iload_n 1, 1) := by decide +kernel
theorem dX7_keeps_37 : decode cX7_keeps 37 = .ok (.iconst 1, 1) := by decide +kernel
theorem dX7_keeps_38 : decode cX7_keeps 38 = .ok (.iadd, 1) := by decide +kernel
theorem dX7_keeps_39 : decode cX7_keeps 39 = .ok (.imul, 1) := by decide +kernel
theorem dX7_keeps_40 : decode cX7_keeps 40 = .ok (.aload_n 0, 1) := by decide +kernel
theorem dX7_keeps_41 : decode cX7_keeps 41 = .ok (.getfield 52, 3) := by decide +kernel
theorem dX7_keeps_44 : decode cX7_keeps 44 = .ok (.sipush 183, 3) := by decide +kernel
theorem dX7_keeps_47 : decode cX7_keeps 47 = .ok (.iload_n 1, 1) := by decide +kernel
theorem dX7_keeps_48 : decode cX7_keeps 48 = .ok (.imul, 1) := by decide +kernel
theorem dX7_keeps_49 : decode cX7_keeps 49 = .ok (.invokestatic 194, 3) := by decide +kernel
theorem dX7_keeps_52 : decode cX7_keeps 52 = .ok (.iinc 1 1, 3) := by decide +kernel
theorem dX7_keeps_55 : decode cX7_keeps 55 = .ok (.goto (-34), 3) := by decide +kernel
theorem dX7_keeps_58 : decode cX7_keeps 58 = .ok (.aload_n 0, 1) := by decide +kernel
theorem dX7_keeps_59 : decode cX7_keeps 59 = .ok (.getfield 7, 3) := by decide +kernel
theorem dX7_keeps_62 : decode cX7_keeps 62 = .ok (.iconst 0, 1) := by decide +kernel
theorem dX7_keeps_63 : decode cX7_keeps 63 = .ok (.aload_n 0, 1) := by decide +kernel
theorem dX7_keeps_64 : decode cX7_keeps 64 = .ok (.getfield 52, 3) := by decide +kernel
theorem dX7_keeps_67 : decode cX7_keeps 67 = .ok (.sipush 183, 3) := by decide +kernel
theorem dX7_keeps_70 : decode cX7_keeps 70 = .ok (.aload_n 0, 1) := by decide +kernel
theorem dX7_keeps_71 : decode cX7_keeps 71 = .ok (.getfield 198, 3) := by decide +kernel
theorem dX7_keeps_74 : decode cX7_keeps 74 = .ok (.imul, 1) := by decide +kernel
theorem dX7_keeps_75 : decode cX7_keeps 75 = .ok (.invokestatic 194, 3) := by decide +kernel
theorem dX7_keeps_78 : decode cX7_keeps 78 = .ok (.aload_n 0, 1) := by decide +kernel
theorem dX7_keeps_79 : decode cX7_keeps 79 = .ok (.dup, 1) := by decide +kernel
theorem dX7_keeps_80 : decode cX7_keeps 80 = .ok (.getfield 198, 3) := by decide +kernel
theorem dX7_keeps_83 : decode cX7_keeps 83 = .ok (.iconst 1, 1) := by decide +kernel
theorem dX7_keeps_84 : decode cX7_keeps 84 = .ok (.iadd, 1) := by decide +kernel
theorem dX7_keeps_85 : decode cX7_keeps 85 = .ok (.putfield 198, 3) := by decide +kernel
theorem dX7_keeps_88 : decode cX7_keeps 88 = .ok (.return_, 1) := by decide +kernel
theorem dX7_undo_0 : decode cX7_undo 0 = .ok (.aload_n 0, 1) := by decide +kernel
theorem dX7_undo_1 : decode cX7_undo 1 = .ok (.iconst 0, 1) := by decide +kernel
theorem dX7_undo_2 : decode cX7_undo 2 = .ok (.putfield 65, 3) := by decide +kernel
theorem dX7_undo_5 : decode cX7_undo 5 = .ok (.aload_n 0, 1) := by decide +kernel
theorem dX7_undo_6 : decode cX7_undo 6 = .ok (.getfield 198, 3) := by decide +kernel
theorem dX7_undo_9 : decode cX7_undo 9 = .ok (.ifCond .ne 5, 3) := by decide +kernel
theorem dX7_undo_12 : decode cX7_undo 12 = .ok (.iconst (-1), 1) := by decide +kernel
theorem dX7_undo_13 : decode cX7_undo 13 = .ok (.ireturn, 1) := by decide +kernel
theorem dX7_undo_14 : decode cX7_undo 14 = .ok (.aload_n 0, 1) := by decide +kernel
theorem dX7_undo_15 : decode cX7_undo 15 = .ok (.dup, 1) := by decide +kernel
theorem dX7_undo_16 : decode cX7_undo 16 = .ok (.getfield 198, 3) := by decide +kernel
theorem dX7_undo_19 : decode cX7_undo 19 = .ok (.iconst 1, 1) := by decide +kernel
theorem dX7_undo_20 : decode cX7_undo 20 = .ok (.isub, 1) := by decide +kernel
theorem dX7_undo_21 : decode cX7_undo 21 = .ok (.putfield 198, 3) := by decide +kernel
theorem dX7_undo_24 : decode cX7_undo 24 = .ok (.aload_n 0, 1) := by decide +kernel
theorem dX7_undo_25 : decode cX7_undo 25 = .ok (.getfield 52, 3) := by decide +kernel
theorem dX7_undo_28 : decode cX7_undo 28 = .ok (.sipush 183, 3) := by decide +kernel
theorem dX7_undo_31 : decode cX7_undo 31 = .ok (.aload_n 0, 1) := by decide +kernel
theorem dX7_undo_32 : decode cX7_undo 32 = .ok (.getfield 198, 3) := by decide +kernel
theorem dX7_undo_35 : decode cX7_undo 35 = .ok (.imul, 1) := by decide +kernel
theorem dX7_undo_36 : decode cX7_undo 36 = .ok (.aload_n 0, 1) := by decide +kernel
theorem dX7_undo_37 : decode cX7_undo 37 = .ok (.getfield 7, 3) := by decide +kernel
theorem dX7_undo_40 : decode cX7_undo 40 = .ok (.iconst 0, 1) := by decide +kernel
theorem dX7_undo_41 : decode cX7_undo 41 = .ok (.invokestatic 194, 3) := by decide +kernel
theorem dX7_undo_44 : decode cX7_undo 44 = .ok (.aload_n 0, 1) := by decide +kernel
theorem dX7_undo_45 : decode cX7_undo 45 = .ok (.getfield 198, 3) := by decide +kernel
theorem dX7_undo_48 : decode cX7_undo 48 = .ok (.ireturn, 1) := by decide +kernel
theorem dX7_noSlot_0 : decode cX7_noSlot 0 = .ok (.aload_n 0, 1) := by decide +kernel
theorem dX7_noSlot_1 : decode cX7_noSlot 1 = .ok (.iconst 0, 1) := by decide +kernel
theorem dX7_noSlot_2 : decode cX7_noSlot 2 = .ok (.putfield 65, 3) := by decide +kernel
theorem dX7_noSlot_5 : decode cX7_noSlot 5 = .ok (.aload_n 0, 1) := by decide +kernel
theorem dX7_noSlot_6 : decode cX7_noSlot 6 = .ok (.iload_n 1, 1) := by decide +kernel
theorem dX7_noSlot_7 : decode cX7_noSlot 7 = .ok (.iconst 0, 1) := by decide +kernel
theorem dX7_noSlot_8 : decode cX7_noSlot 8 = .ok (.iconst 1, 1) := by decide +kernel
theorem dX7_noSlot_9 : decode cX7_noSlot 9 = .ok (.invokestatic 94, 3) := by decide +kernel
theorem dX7_noSlot_12 : decode cX7_noSlot 12 = .ok (.ifCond .ne 7, 3) := by decide +kernel
theorem dX7_noSlot_15 : decode cX7_noSlot 15 = .ok (.iconst 1, 1) := by decide +kernel
theorem dX7_noSlot_16 : decode cX7_noSlot 16 = .ok (.goto 4, 3) := by decide +kernel
theorem dX7_noSlot_19 : decode cX7_noSlot 19 = .ok (.iconst 0, 1) := by decide +kernel
theorem dX7_noSlot_20 : decode cX7_noSlot 20 = .ok (.iconst 1, 1) := by decide +kernel
theorem dX7_noSlot_21 : decode cX7_noSlot 21 = .ok (.invokevirtual 184, 3) := by decide +kernel
theorem dX7_noSlot_24 : decode cX7_noSlot 24 = .ok (.ireturn, 1) := by decide +kernel
theorem dX7_saveSnapshot_0 : decode cX7_saveSnapshot 0 = .ok (.aload_n 0, 1) := by decide +kernel
theorem dX7_saveSnapshot_1 : decode cX7_saveSnapshot 1 = .ok (.iload_n 1, 1) := by decide +kernel
theorem dX7_saveSnapshot_2 : decode cX7_saveSnapshot 2 = .ok (.invokevirtual 341, 3) := by decide +kernel
theorem dX7_saveSnapshot_5 : decode cX7_saveSnapshot 5 = .ok (.ifCond .eq 5, 3) := by decide +kernel
theorem dX7_saveSnapshot_8 : decode cX7_saveSnapshot 8 = .ok (.iconst 0, 1) := by decide +kernel
theorem dX7_saveSnapshot_9 : decode cX7_saveSnapshot 9 = .ok (.ireturn, 1) := by decide +kernel
theorem dX7_saveSnapshot_10 : decode cX7_saveSnapshot 10 = .ok (.aload_n 0, 1) := by decide +kernel
theorem dX7_saveSnapshot_11 : decode cX7_saveSnapshot 11 = .ok (.getfield 58, 3) := by decide +kernel
theorem dX7_saveSnapshot_14 : decode cX7_saveSnapshot 14 = .ok (.iload_n 1, 1) := by decide +kernel
theorem dX7_saveSnapshot_15 : decode cX7_saveSnapshot 15 = .ok (.baload, 1) := by decide +kernel
theorem dX7_saveSnapshot_16 : decode cX7_saveSnapshot 16 = .ok (.istore_n 2, 1) := by decide +kernel
theorem dX7_saveSnapshot_17 : decode cX7_saveSnapshot 17 = .ok (.aload_n 0, 1) := by decide +kernel
theorem dX7_saveSnapshot_18 : decode cX7_saveSnapshot 18 = .ok (.getfield 7, 3) := by decide +kernel
theorem dX7_saveSnapshot_21 : decode cX7_saveSnapshot 21 = .ok (.iconst 0, 1) := by decide +kernel
theorem dX7_saveSnapshot_22 : decode cX7_saveSnapshot 22 = .ok (.aload_n 0, 1) := by decide +kernel
theorem dX7_saveSnapshot_23 : decode cX7_saveSnapshot 23 = .ok (.getfield 55, 3) := by decide +kernel
theorem dX7_saveSnapshot_26 : decode cX7_saveSnapshot 26 = .ok (.sipush 183, 3) := by decide +kernel
theorem dX7_saveSnapshot_29 : decode cX7_saveSnapshot 29 = .ok (.iload_n 1, 1) := by decide +kernel
theorem dX7_saveSnapshot_30 : decode cX7_saveSnapshot 30 = .ok (.imul, 1) := by decide +kernel
theorem dX7_saveSnapshot_31 : decode cX7_saveSnapshot 31 = .ok (.invokestatic 194, 3) := by decide +kernel
theorem dX7_saveSnapshot_34 : decode cX7_saveSnapshot 34 = .ok (.aload_n 0, 1) := by decide +kernel
theorem dX7_saveSnapshot_35 : decode cX7_saveSnapshot 35 = .ok (.getfield 58, 3) := by decide +kernel
theorem dX7_saveSnapshot_38 : decode cX7_saveSnapshot 38 = .ok (.iload_n 1, 1) := by decide +kernel
theorem dX7_saveSnapshot_39 : decode cX7_saveSnapshot 39 = .ok (.iconst 1, 1) := by decide +kernel
theorem dX7_saveSnapshot_40 : decode cX7_saveSnapshot 40 = .ok (.bastore, 1) := by decide +kernel
theorem dX7_saveSnapshot_41 : decode cX7_saveSnapshot 41 = .ok (.iload_n 2, 1) := by decide +kernel
theorem dX7_saveSnapshot_42 : decode cX7_saveSnapshot 42 = .ok (.ireturn, 1) := by decide +kernel
theorem dX7_restoreSnapshot_0 : decode cX7_restoreSnapshot 0 = .ok (.aload_n 0, 1) := by decide +kernel
theorem dX7_restoreSnapshot_1 : decode cX7_restoreSnapshot 1 = .ok (.iload_n 1, 1) := by decide +kernel
theorem dX7_restoreSnapshot_2 : decode cX7_restoreSnapshot 2 = .ok (.invokevirtual 341, 3) := by decide +kernel
theorem dX7_restoreSnapshot_5 : decode cX7_restoreSnapshot 5 = .ok (.ifCond .ne 25, 3) := by decide +kernel
theorem dX7_restoreSnapshot_8 : decode cX7_restoreSnapshot 8 = .ok (.aload_n 0, 1) := by decide +kernel
theorem dX7_restoreSnapshot_9 : decode cX7_restoreSnapshot 9 = .ok (.aload_n 0, 1) := by decide +kernel
theorem dX7_restoreSnapshot_10 : decode cX7_restoreSnapshot 10 = .ok (.getfield 58, 3) := by decide +kernel
theorem dX7_restoreSnapshot_13 : decode cX7_restoreSnapshot 13 = .ok (.iload_n 1, 1) := by decide +kernel
theorem dX7_restoreSnapshot_14 : decode cX7_restoreSnapshot 14 = .ok (.baload, 1) := by decide +kernel
theorem dX7_restoreSnapshot_15 : decode cX7_restoreSnapshot 15 = .ok (.ifCond .ne 7, 3) := by decide +kernel
theorem dX7_restoreSnapshot_18 : decode cX7_restoreSnapshot 18 = .ok (.iconst 1, 1) := by decide +kernel
theorem dX7_restoreSnapshot_19 : decode cX7_restoreSnapshot 19 = .ok (.goto 4, 3) := by decide +kernel
theorem dX7_restoreSnapshot_22 : decode cX7_restoreSnapshot 22 = .ok (.iconst 0, 1) := by decide +kernel
theorem dX7_restoreSnapshot_23 : decode cX7_restoreSnapshot 23 = .ok (.iconst 2, 1) := by decide +kernel
theorem dX7_restoreSnapshot_24 : decode cX7_restoreSnapshot 24 = .ok (.invokevirtual 184, 3) := by decide +kernel
theorem dX7_restoreSnapshot_27 : decode cX7_restoreSnapshot 27 = .ok (.ifCond .eq 5, 3) := by decide +kernel
theorem dX7_restoreSnapshot_30 : decode cX7_restoreSnapshot 30 = .ok (.iconst 0, 1) := by decide +kernel
theorem dX7_restoreSnapshot_31 : decode cX7_restoreSnapshot 31 = .ok (.ireturn, 1) := by decide +kernel
theorem dX7_restoreSnapshot_32 : decode cX7_restoreSnapshot 32 = .ok (.aload_n 0, 1) := by decide +kernel
theorem dX7_restoreSnapshot_33 : decode cX7_restoreSnapshot 33 = .ok (.getfield 55, 3) := by decide +kernel
theorem dX7_restoreSnapshot_36 : decode cX7_restoreSnapshot 36 = .ok (.sipush 183, 3) := by decide +kernel
theorem dX7_restoreSnapshot_39 : decode cX7_restoreSnapshot 39 = .ok (.iload_n 1, 1) := by decide +kernel
theorem dX7_restoreSnapshot_40 : decode cX7_restoreSnapshot 40 = .ok (.imul, 1) := by decide +kernel
theorem dX7_restoreSnapshot_41 : decode cX7_restoreSnapshot 41 = .ok (.aload_n 0, 1) := by decide +kernel
theorem dX7_restoreSnapshot_42 : decode cX7_restoreSnapshot 42 = .ok (.getfield 7, 3) := by decide +kernel
theorem dX7_restoreSnapshot_45 : decode cX7_restoreSnapshot 45 = .ok (.iconst 0, 1) := by decide +kernel
theorem dX7_restoreSnapshot_46 : decode cX7_restoreSnapshot 46 = .ok (.invokestatic 194, 3) := by decide +kernel
theorem dX7_restoreSnapshot_49 : decode cX7_restoreSnapshot 49 = .ok (.aload_n 0, 1) := by decide +kernel
theorem dX7_restoreSnapshot_50 : decode cX7_restoreSnapshot 50 = .ok (.iconst 0, 1) := by decide +kernel
theorem dX7_restoreSnapshot_51 : decode cX7_restoreSnapshot 51 = .ok (.putfield 198, 3) := by decide +kernel
theorem dX7_restoreSnapshot_54 : decode cX7_restoreSnapshot 54 = .ok (.aload_n 0, 1) := by decide +kernel
theorem dX7_restoreSnapshot_55 : decode cX7_restoreSnapshot 55 = .ok (.getfield 7, 3) := by decide +kernel
theorem dX7_restoreSnapshot_58 : decode cX7_restoreSnapshot 58 = .ok (.bipush 8, 2) := by decide +kernel
theorem dX7_restoreSnapshot_60 : decode cX7_restoreSnapshot 60 = .ok (.iaload, 1) := by decide +kernel
theorem dX7_restoreSnapshot_61 : decode cX7_restoreSnapshot 61 = .ok (.ireturn, 1) := by decide +kernel
