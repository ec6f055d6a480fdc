theorem dM_init_0 : decode prog_6_method_1_code 0 = .ok (.aload_n 0, 1) := by decide +kernel
theorem dM_init_1 : decode prog_6_method_1_code 1 = .ok (.invokespecial 1, 3) := by decide +kernel
theorem dM_init_4 : decode prog_6_method_1_code 4 = .ok (.aload_n 0, 1) := by decide +kernel
theorem dM_init_5 : decode prog_6_method_1_code 5 = .ok (.bipush 64, 2) := by decide +kernel
theorem dM_init_7 : decode prog_6_method_1_code 7 = .ok (.newarray .long, 2) := by decide +kernel
theorem dM_init_9 : decode prog_6_method_1_code 9 = .ok (.putfield 7, 3) := by decide +kernel
theorem dM_init_12 : decode prog_6_method_1_code 12 = .ok (.aload_n 0, 1) := by decide +kernel
theorem dM_init_13 : decode prog_6_method_1_code 13 = .ok (.bipush 64, 2) := by decide +kernel
theorem dM_init_15 : decode prog_6_method_1_code 15 = .ok (.newarray .int, 2) := by decide +kernel
theorem dM_init_17 : decode prog_6_method_1_code 17 = .ok (.putfield 13, 3) := by decide +kernel
theorem dM_init_20 : decode prog_6_method_1_code 20 = .ok (.aload_n 0, 1) := by decide +kernel
theorem dM_init_21 : decode prog_6_method_1_code 21 = .ok (.bipush 64, 2) := by decide +kernel
theorem dM_init_23 : decode prog_6_method_1_code 23 = .ok (.newarray .long, 2) := by decide +kernel
theorem dM_init_25 : decode prog_6_method_1_code 25 = .ok (.putfield 17, 3) := by decide +kernel
theorem dM_init_28 : decode prog_6_method_1_code 28 = .ok (.aload_n 0, 1) := by decide +kernel
theorem dM_init_29 : decode prog_6_method_1_code 29 = .ok (.bipush 60, 2) := by decide +kernel
theorem dM_init_31 : decode prog_6_method_1_code 31 = .ok (.newarray .int, 2) := by decide +kernel
theorem dM_init_33 : decode prog_6_method_1_code 33 = .ok (.putfield 20, 3) := by decide +kernel
theorem dM_init_36 : decode prog_6_method_1_code 36 = .ok (.aload_n 0, 1) := by decide +kernel
theorem dM_init_37 : decode prog_6_method_1_code 37 = .ok (.bipush 60, 2) := by decide +kernel
theorem dM_init_39 : decode prog_6_method_1_code 39 = .ok (.newarray .int, 2) := by decide +kernel
theorem dM_init_41 : decode prog_6_method_1_code 41 = .ok (.putfield 23, 3) := by decide +kernel
theorem dM_init_44 : decode prog_6_method_1_code 44 = .ok (.aload_n 0, 1) := by decide +kernel
theorem dM_init_45 : decode prog_6_method_1_code 45 = .ok (.bipush 60, 2) := by decide +kernel
theorem dM_init_47 : decode prog_6_method_1_code 47 = .ok (.newarray .long, 2) := by decide +kernel
theorem dM_init_49 : decode prog_6_method_1_code 49 = .ok (.putfield 26, 3) := by decide +kernel
theorem dM_init_52 : decode prog_6_method_1_code 52 = .ok (.aload_n 0, 1) := by decide +kernel
theorem dM_init_53 : decode prog_6_method_1_code 53 = .ok (.iconst (-1), 1) := by decide +kernel
theorem dM_init_54 : decode prog_6_method_1_code 54 = .ok (.putfield 29, 3) := by decide +kernel
theorem dM_init_57 : decode prog_6_method_1_code 57 = .ok (.aload_n 0, 1) := by decide +kernel
theorem dM_init_58 : decode prog_6_method_1_code 58 = .ok (.iload_n 1, 1) := by decide +kernel
theorem dM_init_59 : decode prog_6_method_1_code 59 = .ok (.iconst 1, 1) := by decide +kernel
theorem dM_init_60 : decode prog_6_method_1_code 60 = .ok (.if_icmp .ge 7, 3) := by decide +kernel
theorem dM_init_63 : decode prog_6_method_1_code 63 = .ok (.iconst 1, 1) := by decide +kernel
theorem dM_init_64 : decode prog_6_method_1_code 64 = .ok (.goto 15, 3) := by decide +kernel
theorem dM_init_67 : decode prog_6_method_1_code 67 = .ok (.iload_n 1, 1) := by decide +kernel
theorem dM_init_68 : decode prog_6_method_1_code 68 = .ok (.bipush 64, 2) := by decide +kernel
theorem dM_init_70 : decode prog_6_method_1_code 70 = .ok (.if_icmp .le 8, 3) := by decide +kernel
theorem dM_init_73 : decode prog_6_method_1_code 73 = .ok (.bipush 64, 2) := by decide +kernel
theorem dM_init_75 : decode prog_6_method_1_code 75 = .ok (.goto 4, 3) := by decide +kernel
theorem dM_init_78 : decode prog_6_method_1_code 78 = .ok (.iload_n 1, 1) := by decide +kernel
theorem dM_init_79 : decode prog_6_method_1_code 79 = .ok (.putfield 33, 3) := by decide +kernel
theorem dM_init_82 : decode prog_6_method_1_code 82 = .ok (.aload_n 0, 1) := by decide +kernel
theorem dM_init_83 : decode prog_6_method_1_code 83 = .ok (.iload_n 2, 1) := by decide +kernel
theorem dM_init_84 : decode prog_6_method_1_code 84 = .ok (.iconst 4, 1) := by decide +kernel
theorem dM_init_85 : decode prog_6_method_1_code 85 = .ok (.if_icmp .ge 7, 3) := by decide +kernel
theorem dM_init_88 : decode prog_6_method_1_code 88 = .ok (.iconst 4, 1) := by decide +kernel
theorem dM_init_89 : decode prog_6_method_1_code 89 = .ok (.goto 15, 3) := by decide +kernel
theorem dM_init_92 : decode prog_6_method_1_code 92 = .ok (.iload_n 2, 1) := by decide +kernel
theorem dM_init_93 : decode prog_6_method_1_code 93 = .ok (.bipush 60, 2) := by decide +kernel
theorem dM_init_95 : decode prog_6_method_1_code 95 = .ok (.if_icmp .le 8, 3) := by decide +kernel
theorem dM_init_98 : decode prog_6_method_1_code 98 = .ok (.bipush 60, 2) := by decide +kernel
theorem dM_init_100 : decode prog_6_method_1_code 100 = .ok (.goto 4, 3) := by decide +kernel
theorem dM_init_103 : decode prog_6_method_1_code 103 = .ok (.iload_n 2, 1) := by decide +kernel
theorem dM_init_104 : decode prog_6_method_1_code 104 = .ok (.putfield 36, 3) := by decide +kernel
theorem dM_init_107 : decode prog_6_method_1_code 107 = .ok (.return_, 1) := by decide +kernel
theorem dM_thrown_0 : decode prog_6_method_2_code 0 = .ok (.aload_n 0, 1) := by decide +kernel
theorem dM_thrown_1 : decode prog_6_method_2_code 1 = .ok (.getfield 39, 3) := by decide +kernel
theorem dM_thrown_4 : decode prog_6_method_2_code 4 = .ok (.ireturn, 1) := by decide +kernel
theorem dM_add_0 : decode prog_6_method_9_code 0 = .ok (.aload_n 0, 1) := by decide +kernel
theorem dM_add_1 : decode prog_6_method_9_code 1 = .ok (.aload_n 0, 1) := by decide +kernel
theorem dM_add_2 : decode prog_6_method_9_code 2 = .ok (.iload_n 1, 1) := by decide +kernel
theorem dM_add_3 : decode prog_6_method_9_code 3 = .ok (.invokevirtual 68, 3) := by decide +kernel
theorem dM_add_6 : decode prog_6_method_9_code 6 = .ok (.ifCond .eq 23, 3) := by decide +kernel
theorem dM_add_9 : decode prog_6_method_9_code 9 = .ok (.lload_n 2, 1) := by decide +kernel
theorem dM_add_10 : decode prog_6_method_9_code 10 = .ok (.ldc2_w 72, 3) := by decide +kernel
theorem dM_add_13 : decode prog_6_method_9_code 13 = .ok (.lcmp, 1) := by decide +kernel
theorem dM_add_14 : decode prog_6_method_9_code 14 = .ok (.ifCond .lt 15, 3) := by decide +kernel
theorem dM_add_17 : decode prog_6_method_9_code 17 = .ok (.lload_n 2, 1) := by decide +kernel
theorem dM_add_18 : decode prog_6_method_9_code 18 = .ok (.ldc2_w 74, 3) := by decide +kernel
theorem dM_add_21 : decode prog_6_method_9_code 21 = .ok (.lcmp, 1) := by decide +kernel
theorem dM_add_22 : decode prog_6_method_9_code 22 = .ok (.ifCond .gt 7, 3) := by decide +kernel
theorem dM_add_25 : decode prog_6_method_9_code 25 = .ok (.iconst 1, 1) := by decide +kernel
theorem dM_add_26 : decode prog_6_method_9_code 26 = .ok (.goto 4, 3) := by decide +kernel
theorem dM_add_29 : decode prog_6_method_9_code 29 = .ok (.iconst 0, 1) := by decide +kernel
theorem dM_add_30 : decode prog_6_method_9_code 30 = .ok (.aload_n 0, 1) := by decide +kernel
theorem dM_add_31 : decode prog_6_method_9_code 31 = .ok (.getfield 42, 3) := by decide +kernel
theorem dM_add_34 : decode prog_6_method_9_code 34 = .ok (.ifCond .ne 7, 3) := by decide +kernel
theorem dM_add_37 : decode prog_6_method_9_code 37 = .ok (.iconst 1, 1) := by decide +kernel
theorem dM_add_38 : decode prog_6_method_9_code 38 = .ok (.goto 4, 3) := by decide +kernel
theorem dM_add_41 : decode prog_6_method_9_code 41 = .ok (.iconst 0, 1) := by decide +kernel
theorem dM_add_42 : decode prog_6_method_9_code 42 = .ok (.invokevirtual 76, 3) := by decide +kernel
theorem dM_add_45 : decode prog_6_method_9_code 45 = .ok (.ifCond .eq 13, 3) := by decide +kernel
theorem dM_add_48 : decode prog_6_method_9_code 48 = .ok (.aload_n 0, 1) := by decide +kernel
theorem dM_add_49 : decode prog_6_method_9_code 49 = .ok (.iconst (-1), 1) := by decide +kernel
theorem dM_add_50 : decode prog_6_method_9_code 50 = .ok (.iload_n 1, 1) := by decide +kernel
theorem dM_add_51 : decode prog_6_method_9_code 51 = .ok (.lload_n 2, 1) := by decide +kernel
theorem dM_add_52 : decode prog_6_method_9_code 52 = .ok (.invokevirtual 80, 3) := by decide +kernel
theorem dM_add_55 : decode prog_6_method_9_code 55 = .ok (.goto 4, 3) := by decide +kernel
theorem dM_add_58 : decode prog_6_method_9_code 58 = .ok (.iconst 0, 1) := by decide +kernel
theorem dM_add_59 : decode prog_6_method_9_code 59 = .ok (.ireturn, 1) := by decide +kernel
theorem dM_isAccount_0 : decode prog_6_method_5_code 0 = .ok (.iload_n 1, 1) := by decide +kernel
theorem dM_isAccount_1 : decode prog_6_method_5_code 1 = .ok (.ifCond .lt 15, 3) := by decide +kernel
theorem dM_isAccount_4 : decode prog_6_method_5_code 4 = .ok (.iload_n 1, 1) := by decide +kernel
theorem dM_isAccount_5 : decode prog_6_method_5_code 5 = .ok (.aload_n 0, 1) := by decide +kernel
theorem dM_isAccount_6 : decode prog_6_method_5_code 6 = .ok (.getfield 33, 3) := by decide +kernel
theorem dM_isAccount_9 : decode prog_6_method_5_code 9 = .ok (.if_icmp .ge 7, 3) := by decide +kernel
theorem dM_isAccount_12 : decode prog_6_method_5_code 12 = .ok (.iconst 1, 1) := by decide +kernel
theorem dM_isAccount_13 : decode prog_6_method_5_code 13 = .ok (.goto 4, 3) := by decide +kernel
theorem dM_isAccount_16 : decode prog_6_method_5_code 16 = .ok (.iconst 0, 1) := by decide +kernel
theorem dM_isAccount_17 : decode prog_6_method_5_code 17 = .ok (.ireturn, 1) := by decide +kernel
theorem dM_goes_0 : decode prog_6_method_3_code 0 = .ok (.aload_n 0, 1) := by decide +kernel
theorem dM_goes_1 : decode prog_6_method_3_code 1 = .ok (.iload_n 1, 1) := by decide +kernel
theorem dM_goes_2 : decode prog_6_method_3_code 2 = .ok (.ifCond .ne 7, 3) := by decide +kernel
theorem dM_goes_5 : decode prog_6_method_3_code 5 = .ok (.iconst 1, 1) := by decide +kernel
theorem dM_goes_6 : decode prog_6_method_3_code 6 = .ok (.goto 12, 3) := by decide +kernel
theorem dM_goes_9 : decode prog_6_method_3_code 9 = .ok (.iload_n 2, 1) := by decide +kernel
theorem dM_goes_10 : decode prog_6_method_3_code 10 = .ok (.ifCond .ne 7, 3) := by decide +kernel
theorem dM_goes_13 : decode prog_6_method_3_code 13 = .ok (.iconst 2, 1) := by decide +kernel
theorem dM_goes_14 : decode prog_6_method_3_code 14 = .ok (.goto 4, 3) := by decide +kernel
theorem dM_goes_17 : decode prog_6_method_3_code 17 = .ok (.iconst 0, 1) := by decide +kernel
theorem dM_goes_18 : decode prog_6_method_3_code 18 = .ok (.putfield 39, 3) := by decide +kernel
theorem dM_goes_21 : decode prog_6_method_3_code 21 = .ok (.aload_n 0, 1) := by decide +kernel
theorem dM_goes_22 : decode prog_6_method_3_code 22 = .ok (.getfield 39, 3) := by decide +kernel
theorem dM_goes_25 : decode prog_6_method_3_code 25 = .ok (.ifCond .ne 7, 3) := by decide +kernel
theorem dM_goes_28 : decode prog_6_method_3_code 28 = .ok (.iconst 1, 1) := by decide +kernel
theorem dM_goes_29 : decode prog_6_method_3_code 29 = .ok (.goto 4, 3) := by decide +kernel
theorem dM_goes_32 : decode prog_6_method_3_code 32 = .ok (.iconst 0, 1) := by decide +kernel
theorem dM_goes_33 : decode prog_6_method_3_code 33 = .ok (.ireturn, 1) := by decide +kernel
theorem dM_take_0 : decode prog_6_method_8_code 0 = .ok (.aload_n 0, 1) := by decide +kernel
theorem dM_take_1 : decode prog_6_method_8_code 1 = .ok (.getfield 52, 3) := by decide +kernel
theorem dM_take_4 : decode prog_6_method_8_code 4 = .ok (.ifCond .ne 39, 3) := by decide +kernel
theorem dM_take_7 : decode prog_6_method_8_code 7 = .ok (.iload_n 1, 1) := by decide +kernel
theorem dM_take_8 : decode prog_6_method_8_code 8 = .ok (.ifCond .ge 19, 3) := by decide +kernel
theorem dM_take_11 : decode prog_6_method_8_code 11 = .ok (.aload_n 0, 1) := by decide +kernel
theorem dM_take_12 : decode prog_6_method_8_code 12 = .ok (.getfield 7, 3) := by decide +kernel
theorem dM_take_15 : decode prog_6_method_8_code 15 = .ok (.iload_n 2, 1) := by decide +kernel
theorem dM_take_16 : decode prog_6_method_8_code 16 = .ok (.laload, 1) := by decide +kernel
theorem dM_take_17 : decode prog_6_method_8_code 17 = .ok (.lload_n 3, 1) := by decide +kernel
theorem dM_take_18 : decode prog_6_method_8_code 18 = .ok (.ladd, 1) := by decide +kernel
theorem dM_take_19 : decode prog_6_method_8_code 19 = .ok (.lconst 0, 1) := by decide +kernel
theorem dM_take_20 : decode prog_6_method_8_code 20 = .ok (.lcmp, 1) := by decide +kernel
theorem dM_take_21 : decode prog_6_method_8_code 21 = .ok (.ifCond .ge 22, 3) := by decide +kernel
theorem dM_take_24 : decode prog_6_method_8_code 24 = .ok (.goto 16, 3) := by decide +kernel
theorem dM_take_27 : decode prog_6_method_8_code 27 = .ok (.aload_n 0, 1) := by decide +kernel
theorem dM_take_28 : decode prog_6_method_8_code 28 = .ok (.getfield 7, 3) := by decide +kernel
theorem dM_take_31 : decode prog_6_method_8_code 31 = .ok (.iload_n 1, 1) := by decide +kernel
theorem dM_take_32 : decode prog_6_method_8_code 32 = .ok (.laload, 1) := by decide +kernel
theorem dM_take_33 : decode prog_6_method_8_code 33 = .ok (.lload_n 3, 1) := by decide +kernel
theorem dM_take_34 : decode prog_6_method_8_code 34 = .ok (.lsub, 1) := by decide +kernel
theorem dM_take_35 : decode prog_6_method_8_code 35 = .ok (.lconst 0, 1) := by decide +kernel
theorem dM_take_36 : decode prog_6_method_8_code 36 = .ok (.lcmp, 1) := by decide +kernel
theorem dM_take_37 : decode prog_6_method_8_code 37 = .ok (.ifCond .ge 6, 3) := by decide +kernel
theorem dM_take_40 : decode prog_6_method_8_code 40 = .ok (.bipush (-4), 2) := by decide +kernel
theorem dM_take_42 : decode prog_6_method_8_code 42 = .ok (.ireturn, 1) := by decide +kernel
theorem dM_take_43 : decode prog_6_method_8_code 43 = .ok (.aload_n 0, 1) := by decide +kernel
theorem dM_take_44 : decode prog_6_method_8_code 44 = .ok (.getfield 55, 3) := by decide +kernel
theorem dM_take_47 : decode prog_6_method_8_code 47 = .ok (.aload_n 0, 1) := by decide +kernel
theorem dM_take_48 : decode prog_6_method_8_code 48 = .ok (.getfield 36, 3) := by decide +kernel
theorem dM_take_51 : decode prog_6_method_8_code 51 = .ok (.if_icmp .ne 6, 3) := by decide +kernel
theorem dM_take_54 : decode prog_6_method_8_code 54 = .ok (.bipush (-2), 2) := by decide +kernel
theorem dM_take_56 : decode prog_6_method_8_code 56 = .ok (.ireturn, 1) := by decide +kernel
theorem dM_take_57 : decode prog_6_method_8_code 57 = .ok (.aload_n 0, 1) := by decide +kernel
theorem dM_take_58 : decode prog_6_method_8_code 58 = .ok (.dup, 1) := by decide +kernel
theorem dM_take_59 : decode prog_6_method_8_code 59 = .ok (.getfield 55, 3) := by decide +kernel
theorem dM_take_62 : decode prog_6_method_8_code 62 = .ok (.iconst 1, 1) := by decide +kernel
theorem dM_take_63 : decode prog_6_method_8_code 63 = .ok (.iadd, 1) := by decide +kernel
theorem dM_take_64 : decode prog_6_method_8_code 64 = .ok (.putfield 55, 3) := by decide +kernel
theorem dM_take_67 : decode prog_6_method_8_code 67 = .ok (.aload_n 0, 1) := by decide +kernel
theorem dM_take_68 : decode prog_6_method_8_code 68 = .ok (.invokevirtual 58, 3) := by decide +kernel
theorem dM_take_71 : decode prog_6_method_8_code 71 = .ok (.aload_n 0, 1) := by decide +kernel
theorem dM_take_72 : decode prog_6_method_8_code 72 = .ok (.getfield 52, 3) := by decide +kernel
theorem dM_take_75 : decode prog_6_method_8_code 75 = .ok (.ifCond .ne 24, 3) := by decide +kernel
theorem dM_take_78 : decode prog_6_method_8_code 78 = .ok (.aload_n 0, 1) := by decide +kernel
theorem dM_take_79 : decode prog_6_method_8_code 79 = .ok (.iload_n 1, 1) := by decide +kernel
theorem dM_take_80 : decode prog_6_method_8_code 80 = .ok (.iload_n 2, 1) := by decide +kernel
theorem dM_take_81 : decode prog_6_method_8_code 81 = .ok (.lload_n 3, 1) := by decide +kernel
theorem dM_take_82 : decode prog_6_method_8_code 82 = .ok (.invokevirtual 61, 3) := by decide +kernel
theorem dM_take_85 : decode prog_6_method_8_code 85 = .ok (.aload_n 0, 1) := by decide +kernel
theorem dM_take_86 : decode prog_6_method_8_code 86 = .ok (.getfield 42, 3) := by decide +kernel
theorem dM_take_89 : decode prog_6_method_8_code 89 = .ok (.ifCond .eq 8, 3) := by decide +kernel
theorem dM_take_92 : decode prog_6_method_8_code 92 = .ok (.bipush (-3), 2) := by decide +kernel
theorem dM_take_94 : decode prog_6_method_8_code 94 = .ok (.goto 4, 3) := by decide +kernel
theorem dM_take_97 : decode prog_6_method_8_code 97 = .ok (.iconst 1, 1) := by decide +kernel
theorem dM_take_98 : decode prog_6_method_8_code 98 = .ok (.ireturn, 1) := by decide +kernel
theorem dM_take_99 : decode prog_6_method_8_code 99 = .ok (.aload_n 0, 1) := by decide +kernel
theorem dM_take_100 : decode prog_6_method_8_code 100 = .ok (.getfield 42, 3) := by decide +kernel
theorem dM_take_103 : decode prog_6_method_8_code 103 = .ok (.ifCond .eq 6, 3) := by decide +kernel
theorem dM_take_106 : decode prog_6_method_8_code 106 = .ok (.bipush (-3), 2) := by decide +kernel
theorem dM_take_108 : decode prog_6_method_8_code 108 = .ok (.ireturn, 1) := by decide +kernel
theorem dM_take_109 : decode prog_6_method_8_code 109 = .ok (.aload_n 0, 1) := by decide +kernel
theorem dM_take_110 : decode prog_6_method_8_code 110 = .ok (.getfield 20, 3) := by decide +kernel
theorem dM_take_113 : decode prog_6_method_8_code 113 = .ok (.aload_n 0, 1) := by decide +kernel
theorem dM_take_114 : decode prog_6_method_8_code 114 = .ok (.getfield 65, 3) := by decide +kernel
theorem dM_take_117 : decode prog_6_method_8_code 117 = .ok (.iload_n 1, 1) := by decide +kernel
theorem dM_take_118 : decode prog_6_method_8_code 118 = .ok (.iastore, 1) := by decide +kernel
theorem dM_take_119 : decode prog_6_method_8_code 119 = .ok (.aload_n 0, 1) := by decide +kernel
theorem dM_take_120 : decode prog_6_method_8_code 120 = .ok (.getfield 23, 3) := by decide +kernel
theorem dM_take_123 : decode prog_6_method_8_code 123 = .ok (.aload_n 0, 1) := by decide +kernel
theorem dM_take_124 : decode prog_6_method_8_code 124 = .ok (.getfield 65, 3) := by decide +kernel
theorem dM_take_127 : decode prog_6_method_8_code 127 = .ok (.iload_n 2, 1) := by decide +kernel
theorem dM_take_128 : decode prog_6_method_8_code 128 = .ok (.iastore, 1) := by decide +kernel
theorem dM_take_129 : decode prog_6_method_8_code 129 = .ok (.aload_n 0, 1) := by decide +kernel
theorem dM_take_130 : decode prog_6_method_8_code 130 = .ok (.getfield 26, 3) := by decide +kernel
theorem dM_take_133 : decode prog_6_method_8_code 133 = .ok (.aload_n 0, 1) := by decide +kernel
theorem dM_take_134 : decode prog_6_method_8_code 134 = .ok (.getfield 65, 3) := by decide +kernel
theorem dM_take_137 : decode prog_6_method_8_code 137 = .ok (.lload_n 3, 1) := by decide +kernel
theorem dM_take_138 : decode prog_6_method_8_code 138 = .ok (.lastore, 1) := by decide +kernel
theorem dM_take_139 : decode prog_6_method_8_code 139 = .ok (.aload_n 0, 1) := by decide +kernel
theorem dM_take_140 : decode prog_6_method_8_code 140 = .ok (.dup, 1) := by decide +kernel
theorem dM_take_141 : decode prog_6_method_8_code 141 = .ok (.getfield 65, 3) := by decide +kernel
theorem dM_take_144 : decode prog_6_method_8_code 144 = .ok (.iconst 1, 1) := by decide +kernel
theorem dM_take_145 : decode prog_6_method_8_code 145 = .ok (.iadd, 1) := by decide +kernel
theorem dM_take_146 : decode prog_6_method_8_code 146 = .ok (.putfield 65, 3) := by decide +kernel
theorem dM_take_149 : decode prog_6_method_8_code 149 = .ok (.iconst 0, 1) := by decide +kernel
theorem dM_take_150 : decode prog_6_method_8_code 150 = .ok (.ireturn, 1) := by decide +kernel
theorem dM_spend_0 : decode prog_6_method_6_code 0 = .ok (.aload_n 0, 1) := by decide +kernel
theorem dM_spend_1 : decode prog_6_method_6_code 1 = .ok (.dup, 1) := by decide +kernel
theorem dM_spend_2 : decode prog_6_method_6_code 2 = .ok (.getfield 46, 3) := by decide +kernel
theorem dM_spend_5 : decode prog_6_method_6_code 5 = .ok (.iconst 1, 1) := by decide +kernel
theorem dM_spend_6 : decode prog_6_method_6_code 6 = .ok (.iadd, 1) := by decide +kernel
theorem dM_spend_7 : decode prog_6_method_6_code 7 = .ok (.putfield 46, 3) := by decide +kernel
theorem dM_spend_10 : decode prog_6_method_6_code 10 = .ok (.aload_n 0, 1) := by decide +kernel
theorem dM_spend_11 : decode prog_6_method_6_code 11 = .ok (.dup, 1) := by decide +kernel
theorem dM_spend_12 : decode prog_6_method_6_code 12 = .ok (.getfield 29, 3) := by decide +kernel
theorem dM_spend_15 : decode prog_6_method_6_code 15 = .ok (.aload_n 0, 1) := by decide +kernel
theorem dM_spend_16 : decode prog_6_method_6_code 16 = .ok (.getfield 29, 3) := by decide +kernel
theorem dM_spend_19 : decode prog_6_method_6_code 19 = .ok (.ifCond .le 7, 3) := by decide +kernel
theorem dM_spend_22 : decode prog_6_method_6_code 22 = .ok (.iconst 1, 1) := by decide +kernel
theorem dM_spend_23 : decode prog_6_method_6_code 23 = .ok (.goto 4, 3) := by decide +kernel
theorem dM_spend_26 : decode prog_6_method_6_code 26 = .ok (.iconst 0, 1) := by decide +kernel
theorem dM_spend_27 : decode prog_6_method_6_code 27 = .ok (.isub, 1) := by decide +kernel
theorem dM_spend_28 : decode prog_6_method_6_code 28 = .ok (.putfield 29, 3) := by decide +kernel
theorem dM_spend_31 : decode prog_6_method_6_code 31 = .ok (.aload_n 0, 1) := by decide +kernel
theorem dM_spend_32 : decode prog_6_method_6_code 32 = .ok (.aload_n 0, 1) := by decide +kernel
theorem dM_spend_33 : decode prog_6_method_6_code 33 = .ok (.getfield 29, 3) := by decide +kernel
theorem dM_spend_36 : decode prog_6_method_6_code 36 = .ok (.ifCond .ne 7, 3) := by decide +kernel
theorem dM_spend_39 : decode prog_6_method_6_code 39 = .ok (.iconst 1, 1) := by decide +kernel
theorem dM_spend_40 : decode prog_6_method_6_code 40 = .ok (.goto 4, 3) := by decide +kernel
theorem dM_spend_43 : decode prog_6_method_6_code 43 = .ok (.iconst 0, 1) := by decide +kernel
theorem dM_spend_44 : decode prog_6_method_6_code 44 = .ok (.putfield 42, 3) := by decide +kernel
theorem dM_spend_47 : decode prog_6_method_6_code 47 = .ok (.return_, 1) := by decide +kernel
theorem dM_happen_0 : decode prog_6_method_7_code 0 = .ok (.iload_n 1, 1) := by decide +kernel
theorem dM_happen_1 : decode prog_6_method_7_code 1 = .ok (.ifCond .lt 23, 3) := by decide +kernel
theorem dM_happen_4 : decode prog_6_method_7_code 4 = .ok (.aload_n 0, 1) := by decide +kernel
theorem dM_happen_5 : decode prog_6_method_7_code 5 = .ok (.getfield 7, 3) := by decide +kernel
theorem dM_happen_8 : decode prog_6_method_7_code 8 = .ok (.iload_n 1, 1) := by decide +kernel
theorem dM_happen_9 : decode prog_6_method_7_code 9 = .ok (.dup2, 1) := by decide +kernel
theorem dM_happen_10 : decode prog_6_method_7_code 10 = .ok (.laload, 1) := by decide +kernel
theorem dM_happen_11 : decode prog_6_method_7_code 11 = .ok (.lload_n 3, 1) := by decide +kernel
theorem dM_happen_12 : decode prog_6_method_7_code 12 = .ok (.lsub, 1) := by decide +kernel
theorem dM_happen_13 : decode prog_6_method_7_code 13 = .ok (.lastore, 1) := by decide +kernel
theorem dM_happen_14 : decode prog_6_method_7_code 14 = .ok (.aload_n 0, 1) := by decide +kernel
theorem dM_happen_15 : decode prog_6_method_7_code 15 = .ok (.getfield 13, 3) := by decide +kernel
theorem dM_happen_18 : decode prog_6_method_7_code 18 = .ok (.iload_n 1, 1) := by decide +kernel
theorem dM_happen_19 : decode prog_6_method_7_code 19 = .ok (.dup2, 1) := by decide +kernel
theorem dM_happen_20 : decode prog_6_method_7_code 20 = .ok (.iaload, 1) := by decide +kernel
theorem dM_happen_21 : decode prog_6_method_7_code 21 = .ok (.iconst 1, 1) := by decide +kernel
theorem dM_happen_22 : decode prog_6_method_7_code 22 = .ok (.iadd, 1) := by decide +kernel
theorem dM_happen_23 : decode prog_6_method_7_code 23 = .ok (.iastore, 1) := by decide +kernel
theorem dM_happen_24 : decode prog_6_method_7_code 24 = .ok (.aload_n 0, 1) := by decide +kernel
theorem dM_happen_25 : decode prog_6_method_7_code 25 = .ok (.getfield 7, 3) := by decide +kernel
theorem dM_happen_28 : decode prog_6_method_7_code 28 = .ok (.iload_n 2, 1) := by decide +kernel
theorem dM_happen_29 : decode prog_6_method_7_code 29 = .ok (.dup2, 1) := by decide +kernel
theorem dM_happen_30 : decode prog_6_method_7_code 30 = .ok (.laload, 1) := by decide +kernel
theorem dM_happen_31 : decode prog_6_method_7_code 31 = .ok (.lload_n 3, 1) := by decide +kernel
theorem dM_happen_32 : decode prog_6_method_7_code 32 = .ok (.ladd, 1) := by decide +kernel
theorem dM_happen_33 : decode prog_6_method_7_code 33 = .ok (.lastore, 1) := by decide +kernel
theorem dM_happen_34 : decode prog_6_method_7_code 34 = .ok (.aload_n 0, 1) := by decide +kernel
theorem dM_happen_35 : decode prog_6_method_7_code 35 = .ok (.getfield 13, 3) := by decide +kernel
theorem dM_happen_38 : decode prog_6_method_7_code 38 = .ok (.iload_n 2, 1) := by decide +kernel
theorem dM_happen_39 : decode prog_6_method_7_code 39 = .ok (.dup2, 1) := by decide +kernel
theorem dM_happen_40 : decode prog_6_method_7_code 40 = .ok (.iaload, 1) := by decide +kernel
theorem dM_happen_41 : decode prog_6_method_7_code 41 = .ok (.iconst 1, 1) := by decide +kernel
theorem dM_happen_42 : decode prog_6_method_7_code 42 = .ok (.iadd, 1) := by decide +kernel
theorem dM_happen_43 : decode prog_6_method_7_code 43 = .ok (.iastore, 1) := by decide +kernel
theorem dM_happen_44 : decode prog_6_method_7_code 44 = .ok (.aload_n 0, 1) := by decide +kernel
theorem dM_happen_45 : decode prog_6_method_7_code 45 = .ok (.dup, 1) := by decide +kernel
theorem dM_happen_46 : decode prog_6_method_7_code 46 = .ok (.getfield 49, 3) := by decide +kernel
theorem dM_happen_49 : decode prog_6_method_7_code 49 = .ok (.iconst 1, 1) := by decide +kernel
theorem dM_happen_50 : decode prog_6_method_7_code 50 = .ok (.iadd, 1) := by decide +kernel
theorem dM_happen_51 : decode prog_6_method_7_code 51 = .ok (.putfield 49, 3) := by decide +kernel
theorem dM_happen_54 : decode prog_6_method_7_code 54 = .ok (.return_, 1) := by decide +kernel
theorem dM_move_0 : decode prog_6_method_10_code 0 = .ok (.aload_n 0, 1) := by decide +kernel
theorem dM_move_1 : decode prog_6_method_10_code 1 = .ok (.aload_n 0, 1) := by decide +kernel
theorem dM_move_2 : decode prog_6_method_10_code 2 = .ok (.iload_n 1, 1) := by decide +kernel
theorem dM_move_3 : decode prog_6_method_10_code 3 = .ok (.invokevirtual 68, 3) := by decide +kernel
theorem dM_move_6 : decode prog_6_method_10_code 6 = .ok (.ifCond .eq 34, 3) := by decide +kernel
theorem dM_move_9 : decode prog_6_method_10_code 9 = .ok (.aload_n 0, 1) := by decide +kernel
theorem dM_move_10 : decode prog_6_method_10_code 10 = .ok (.iload_n 2, 1) := by decide +kernel
theorem dM_move_11 : decode prog_6_method_10_code 11 = .ok (.invokevirtual 68, 3) := by decide +kernel
theorem dM_move_14 : decode prog_6_method_10_code 14 = .ok (.ifCond .eq 26, 3) := by decide +kernel
theorem dM_move_17 : decode prog_6_method_10_code 17 = .ok (.iload_n 1, 1) := by decide +kernel
theorem dM_move_18 : decode prog_6_method_10_code 18 = .ok (.iload_n 2, 1) := by decide +kernel
theorem dM_move_19 : decode prog_6_method_10_code 19 = .ok (.if_icmp .eq 21, 3) := by decide +kernel
theorem dM_move_22 : decode prog_6_method_10_code 22 = .ok (.lload_n 3, 1) := by decide +kernel
theorem dM_move_23 : decode prog_6_method_10_code 23 = .ok (.lconst 0, 1) := by decide +kernel
theorem dM_move_24 : decode prog_6_method_10_code 24 = .ok (.lcmp, 1) := by decide +kernel
theorem dM_move_25 : decode prog_6_method_10_code 25 = .ok (.ifCond .lt 15, 3) := by decide +kernel
theorem dM_move_28 : decode prog_6_method_10_code 28 = .ok (.lload_n 3, 1) := by decide +kernel
theorem dM_move_29 : decode prog_6_method_10_code 29 = .ok (.ldc2_w 74, 3) := by decide +kernel
theorem dM_move_32 : decode prog_6_method_10_code 32 = .ok (.lcmp, 1) := by decide +kernel
theorem dM_move_33 : decode prog_6_method_10_code 33 = .ok (.ifCond .gt 7, 3) := by decide +kernel
theorem dM_move_36 : decode prog_6_method_10_code 36 = .ok (.iconst 1, 1) := by decide +kernel
theorem dM_move_37 : decode prog_6_method_10_code 37 = .ok (.goto 4, 3) := by decide +kernel
theorem dM_move_40 : decode prog_6_method_10_code 40 = .ok (.iconst 0, 1) := by decide +kernel
theorem dM_move_41 : decode prog_6_method_10_code 41 = .ok (.aload_n 0, 1) := by decide +kernel
theorem dM_move_42 : decode prog_6_method_10_code 42 = .ok (.getfield 42, 3) := by decide +kernel
theorem dM_move_45 : decode prog_6_method_10_code 45 = .ok (.ifCond .ne 7, 3) := by decide +kernel
theorem dM_move_48 : decode prog_6_method_10_code 48 = .ok (.iconst 1, 1) := by decide +kernel
theorem dM_move_49 : decode prog_6_method_10_code 49 = .ok (.goto 4, 3) := by decide +kernel
theorem dM_move_52 : decode prog_6_method_10_code 52 = .ok (.iconst 0, 1) := by decide +kernel
theorem dM_move_53 : decode prog_6_method_10_code 53 = .ok (.invokevirtual 76, 3) := by decide +kernel
theorem dM_move_56 : decode prog_6_method_10_code 56 = .ok (.ifCond .eq 13, 3) := by decide +kernel
theorem dM_move_59 : decode prog_6_method_10_code 59 = .ok (.aload_n 0, 1) := by decide +kernel
theorem dM_move_60 : decode prog_6_method_10_code 60 = .ok (.iload_n 1, 1) := by decide +kernel
theorem dM_move_61 : decode prog_6_method_10_code 61 = .ok (.iload_n 2, 1) := by decide +kernel
theorem dM_move_62 : decode prog_6_method_10_code 62 = .ok (.lload_n 3, 1) := by decide +kernel
theorem dM_move_63 : decode prog_6_method_10_code 63 = .ok (.invokevirtual 80, 3) := by decide +kernel
theorem dM_move_66 : decode prog_6_method_10_code 66 = .ok (.goto 4, 3) := by decide +kernel
theorem dM_move_69 : decode prog_6_method_10_code 69 = .ok (.iconst 0, 1) := by decide +kernel
theorem dM_move_70 : decode prog_6_method_10_code 70 = .ok (.ireturn, 1) := by decide +kernel
theorem dM_begin_0 : decode prog_6_method_11_code 0 = .ok (.aload_n 0, 1) := by decide +kernel
theorem dM_begin_1 : decode prog_6_method_11_code 1 = .ok (.aload_n 0, 1) := by decide +kernel
theorem dM_begin_2 : decode prog_6_method_11_code 2 = .ok (.getfield 52, 3) := by decide +kernel
theorem dM_begin_5 : decode prog_6_method_11_code 5 = .ok (.ifCond .ne 7, 3) := by decide +kernel
theorem dM_begin_8 : decode prog_6_method_11_code 8 = .ok (.iconst 1, 1) := by decide +kernel
theorem dM_begin_9 : decode prog_6_method_11_code 9 = .ok (.goto 4, 3) := by decide +kernel
theorem dM_begin_12 : decode prog_6_method_11_code 12 = .ok (.iconst 0, 1) := by decide +kernel
theorem dM_begin_13 : decode prog_6_method_11_code 13 = .ok (.invokevirtual 84, 3) := by decide +kernel
theorem dM_begin_16 : decode prog_6_method_11_code 16 = .ok (.ifCond .eq 13, 3) := by decide +kernel
theorem dM_begin_19 : decode prog_6_method_11_code 19 = .ok (.aload_n 0, 1) := by decide +kernel
theorem dM_begin_20 : decode prog_6_method_11_code 20 = .ok (.iconst 1, 1) := by decide +kernel
theorem dM_begin_21 : decode prog_6_method_11_code 21 = .ok (.putfield 52, 3) := by decide +kernel
theorem dM_begin_24 : decode prog_6_method_11_code 24 = .ok (.aload_n 0, 1) := by decide +kernel
theorem dM_begin_25 : decode prog_6_method_11_code 25 = .ok (.iconst 0, 1) := by decide +kernel
theorem dM_begin_26 : decode prog_6_method_11_code 26 = .ok (.putfield 65, 3) := by decide +kernel
theorem dM_begin_29 : decode prog_6_method_11_code 29 = .ok (.return_, 1) := by decide +kernel
theorem dM_stands_0 : decode prog_6_method_4_code 0 = .ok (.aload_n 0, 1) := by decide +kernel
theorem dM_stands_1 : decode prog_6_method_4_code 1 = .ok (.aload_n 0, 1) := by decide +kernel
theorem dM_stands_2 : decode prog_6_method_4_code 2 = .ok (.getfield 42, 3) := by decide +kernel
theorem dM_stands_5 : decode prog_6_method_4_code 5 = .ok (.ifCond .ne 7, 3) := by decide +kernel
theorem dM_stands_8 : decode prog_6_method_4_code 8 = .ok (.iload_n 1, 1) := by decide +kernel
theorem dM_stands_9 : decode prog_6_method_4_code 9 = .ok (.ifCond .ne 7, 3) := by decide +kernel
theorem dM_stands_12 : decode prog_6_method_4_code 12 = .ok (.iconst 1, 1) := by decide +kernel
theorem dM_stands_13 : decode prog_6_method_4_code 13 = .ok (.goto 4, 3) := by decide +kernel
theorem dM_stands_16 : decode prog_6_method_4_code 16 = .ok (.iconst 0, 1) := by decide +kernel
theorem dM_stands_17 : decode prog_6_method_4_code 17 = .ok (.putfield 39, 3) := by decide +kernel
theorem dM_stands_20 : decode prog_6_method_4_code 20 = .ok (.aload_n 0, 1) := by decide +kernel
theorem dM_stands_21 : decode prog_6_method_4_code 21 = .ok (.getfield 39, 3) := by decide +kernel
theorem dM_stands_24 : decode prog_6_method_4_code 24 = .ok (.ifCond .ne 7, 3) := by decide +kernel
theorem dM_stands_27 : decode prog_6_method_4_code 27 = .ok (.iconst 1, 1) := by decide +kernel
theorem dM_stands_28 : decode prog_6_method_4_code 28 = .ok (.goto 4, 3) := by decide +kernel
theorem dM_stands_31 : decode prog_6_method_4_code 31 = .ok (.iconst 0, 1) := by decide +kernel
theorem dM_stands_32 : decode prog_6_method_4_code 32 = .ok (.ireturn, 1) := by decide +kernel
theorem dM_end_0 : decode prog_6_method_13_code 0 = .ok (.aload_n 0, 1) := by decide +kernel
theorem dM_end_1 : decode prog_6_method_13_code 1 = .ok (.aload_n 0, 1) := by decide +kernel
theorem dM_end_2 : decode prog_6_method_13_code 2 = .ok (.getfield 52, 3) := by decide +kernel
theorem dM_end_5 : decode prog_6_method_13_code 5 = .ok (.invokevirtual 84, 3) := by decide +kernel
theorem dM_end_8 : decode prog_6_method_13_code 8 = .ok (.ifCond .ne 5, 3) := by decide +kernel
theorem dM_end_11 : decode prog_6_method_13_code 11 = .ok (.iconst 0, 1) := by decide +kernel
theorem dM_end_12 : decode prog_6_method_13_code 12 = .ok (.ireturn, 1) := by decide +kernel
theorem dM_end_13 : decode prog_6_method_13_code 13 = .ok (.aload_n 0, 1) := by decide +kernel
theorem dM_end_14 : decode prog_6_method_13_code 14 = .ok (.invokevirtual 88, 3) := by decide +kernel
theorem dM_end_17 : decode prog_6_method_13_code 17 = .ok (.ifCond .ne 11, 3) := by decide +kernel
theorem dM_end_20 : decode prog_6_method_13_code 20 = .ok (.aload_n 0, 1) := by decide +kernel
theorem dM_end_21 : decode prog_6_method_13_code 21 = .ok (.iconst 0, 1) := by decide +kernel
theorem dM_end_22 : decode prog_6_method_13_code 22 = .ok (.putfield 52, 3) := by decide +kernel
theorem dM_end_25 : decode prog_6_method_13_code 25 = .ok (.bipush (-4), 2) := by decide +kernel
theorem dM_end_27 : decode prog_6_method_13_code 27 = .ok (.ireturn, 1) := by decide +kernel
theorem dM_end_28 : decode prog_6_method_13_code 28 = .ok (.aload_n 0, 1) := by decide +kernel
theorem dM_end_29 : decode prog_6_method_13_code 29 = .ok (.getfield 55, 3) := by decide +kernel
theorem dM_end_32 : decode prog_6_method_13_code 32 = .ok (.aload_n 0, 1) := by decide +kernel
theorem dM_end_33 : decode prog_6_method_13_code 33 = .ok (.getfield 36, 3) := by decide +kernel
theorem dM_end_36 : decode prog_6_method_13_code 36 = .ok (.if_icmp .ne 6, 3) := by decide +kernel
theorem dM_end_39 : decode prog_6_method_13_code 39 = .ok (.bipush (-2), 2) := by decide +kernel
theorem dM_end_41 : decode prog_6_method_13_code 41 = .ok (.ireturn, 1) := by decide +kernel
theorem dM_end_42 : decode prog_6_method_13_code 42 = .ok (.aload_n 0, 1) := by decide +kernel
theorem dM_end_43 : decode prog_6_method_13_code 43 = .ok (.dup, 1) := by decide +kernel
theorem dM_end_44 : decode prog_6_method_13_code 44 = .ok (.getfield 55, 3) := by decide +kernel
theorem dM_end_47 : decode prog_6_method_13_code 47 = .ok (.iconst 1, 1) := by decide +kernel
theorem dM_end_48 : decode prog_6_method_13_code 48 = .ok (.iadd, 1) := by decide +kernel
theorem dM_end_49 : decode prog_6_method_13_code 49 = .ok (.putfield 55, 3) := by decide +kernel
theorem dM_end_52 : decode prog_6_method_13_code 52 = .ok (.aload_n 0, 1) := by decide +kernel
theorem dM_end_53 : decode prog_6_method_13_code 53 = .ok (.invokevirtual 58, 3) := by decide +kernel
theorem dM_end_56 : decode prog_6_method_13_code 56 = .ok (.iconst 0, 1) := by decide +kernel
theorem dM_end_57 : decode prog_6_method_13_code 57 = .ok (.istore_n 1, 1) := by decide +kernel
theorem dM_end_58 : decode prog_6_method_13_code 58 = .ok (.iload_n 1, 1) := by decide +kernel
theorem dM_end_59 : decode prog_6_method_13_code 59 = .ok (.aload_n 0, 1) := by decide +kernel
theorem dM_end_60 : decode prog_6_method_13_code 60 = .ok (.getfield 65, 3) := by decide +kernel
theorem dM_end_63 : decode prog_6_method_13_code 63 = .ok (.if_icmp .ge 31, 3) := by decide +kernel
theorem dM_end_66 : decode prog_6_method_13_code 66 = .ok (.aload_n 0, 1) := by decide +kernel
theorem dM_end_67 : decode prog_6_method_13_code 67 = .ok (.aload_n 0, 1) := by decide +kernel
theorem dM_end_68 : decode prog_6_method_13_code 68 = .ok (.getfield 20, 3) := by decide +kernel
theorem dM_end_71 : decode prog_6_method_13_code 71 = .ok (.iload_n 1, 1) := by decide +kernel
theorem dM_end_72 : decode prog_6_method_13_code 72 = .ok (.iaload, 1) := by decide +kernel
theorem dM_end_73 : decode prog_6_method_13_code 73 = .ok (.aload_n 0, 1) := by decide +kernel
theorem dM_end_74 : decode prog_6_method_13_code 74 = .ok (.getfield 23, 3) := by decide +kernel
theorem dM_end_77 : decode prog_6_method_13_code 77 = .ok (.iload_n 1, 1) := by decide +kernel
theorem dM_end_78 : decode prog_6_method_13_code 78 = .ok (.iaload, 1) := by decide +kernel
theorem dM_end_79 : decode prog_6_method_13_code 79 = .ok (.aload_n 0, 1) := by decide +kernel
theorem dM_end_80 : decode prog_6_method_13_code 80 = .ok (.getfield 26, 3) := by decide +kernel
theorem dM_end_83 : decode prog_6_method_13_code 83 = .ok (.iload_n 1, 1) := by decide +kernel
theorem dM_end_84 : decode prog_6_method_13_code 84 = .ok (.laload, 1) := by decide +kernel
theorem dM_end_85 : decode prog_6_method_13_code 85 = .ok (.invokevirtual 61, 3) := by decide +kernel
theorem dM_end_88 : decode prog_6_method_13_code 88 = .ok (.iinc 1 1, 3) := by decide +kernel
theorem dM_end_91 : decode prog_6_method_13_code 91 = .ok (.goto (-33), 3) := by decide +kernel
theorem dM_end_94 : decode prog_6_method_13_code 94 = .ok (.aload_n 0, 1) := by decide +kernel
theorem dM_end_95 : decode prog_6_method_13_code 95 = .ok (.iconst 0, 1) := by decide +kernel
theorem dM_end_96 : decode prog_6_method_13_code 96 = .ok (.putfield 52, 3) := by decide +kernel
theorem dM_end_99 : decode prog_6_method_13_code 99 = .ok (.aload_n 0, 1) := by decide +kernel
theorem dM_end_100 : decode prog_6_method_13_code 100 = .ok (.getfield 42, 3) := by decide +kernel
theorem dM_end_103 : decode prog_6_method_13_code 103 = .ok (.ifCond .eq 8, 3) := by decide +kernel
theorem dM_end_106 : decode prog_6_method_13_code 106 = .ok (.bipush (-3), 2) := by decide +kernel
theorem dM_end_108 : decode prog_6_method_13_code 108 = .ok (.goto 7, 3) := by decide +kernel
theorem dM_end_111 : decode prog_6_method_13_code 111 = .ok (.aload_n 0, 1) := by decide +kernel
theorem dM_end_112 : decode prog_6_method_13_code 112 = .ok (.getfield 65, 3) := by decide +kernel
theorem dM_end_115 : decode prog_6_method_13_code 115 = .ok (.ireturn, 1) := by decide +kernel
theorem dM_isRich_0 : decode prog_6_method_12_code 0 = .ok (.iconst 0, 1) := by decide +kernel
theorem dM_isRich_1 : decode prog_6_method_12_code 1 = .ok (.istore_n 1, 1) := by decide +kernel
theorem dM_isRich_2 : decode prog_6_method_12_code 2 = .ok (.iload_n 1, 1) := by decide +kernel
theorem dM_isRich_3 : decode prog_6_method_12_code 3 = .ok (.aload_n 0, 1) := by decide +kernel
theorem dM_isRich_4 : decode prog_6_method_12_code 4 = .ok (.getfield 33, 3) := by decide +kernel
theorem dM_isRich_7 : decode prog_6_method_12_code 7 = .ok (.if_icmp .ge 21, 3) := by decide +kernel
theorem dM_isRich_10 : decode prog_6_method_12_code 10 = .ok (.aload_n 0, 1) := by decide +kernel
theorem dM_isRich_11 : decode prog_6_method_12_code 11 = .ok (.getfield 17, 3) := by decide +kernel
theorem dM_isRich_14 : decode prog_6_method_12_code 14 = .ok (.iload_n 1, 1) := by decide +kernel
theorem dM_isRich_15 : decode prog_6_method_12_code 15 = .ok (.aload_n 0, 1) := by decide +kernel
theorem dM_isRich_16 : decode prog_6_method_12_code 16 = .ok (.getfield 7, 3) := by decide +kernel
theorem dM_isRich_19 : decode prog_6_method_12_code 19 = .ok (.iload_n 1, 1) := by decide +kernel
theorem dM_isRich_20 : decode prog_6_method_12_code 20 = .ok (.laload, 1) := by decide +kernel
theorem dM_isRich_21 : decode prog_6_method_12_code 21 = .ok (.lastore, 1) := by decide +kernel
theorem dM_isRich_22 : decode prog_6_method_12_code 22 = .ok (.iinc 1 1, 3) := by decide +kernel
theorem dM_isRich_25 : decode prog_6_method_12_code 25 = .ok (.goto (-23), 3) := by decide +kernel
theorem dM_isRich_28 : decode prog_6_method_12_code 28 = .ok (.iconst 1, 1) := by decide +kernel
theorem dM_isRich_29 : decode prog_6_method_12_code 29 = .ok (.istore_n 1, 1) := by decide +kernel
theorem dM_isRich_30 : decode prog_6_method_12_code 30 = .ok (.iconst 0, 1) := by decide +kernel
theorem dM_isRich_31 : decode prog_6_method_12_code 31 = .ok (.istore_n 2, 1) := by decide +kernel
theorem dM_isRich_32 : decode prog_6_method_12_code 32 = .ok (.iload_n 2, 1) := by decide +kernel
theorem dM_isRich_33 : decode prog_6_method_12_code 33 = .ok (.aload_n 0, 1) := by decide +kernel
theorem dM_isRich_34 : decode prog_6_method_12_code 34 = .ok (.getfield 65, 3) := by decide +kernel
theorem dM_isRich_37 : decode prog_6_method_12_code 37 = .ok (.if_icmp .ge 119, 3) := by decide +kernel
theorem dM_isRich_40 : decode prog_6_method_12_code 40 = .ok (.aload_n 0, 1) := by decide +kernel
theorem dM_isRich_41 : decode prog_6_method_12_code 41 = .ok (.getfield 20, 3) := by decide +kernel
theorem dM_isRich_44 : decode prog_6_method_12_code 44 = .ok (.iload_n 2, 1) := by decide +kernel
theorem dM_isRich_45 : decode prog_6_method_12_code 45 = .ok (.iaload, 1) := by decide +kernel
theorem dM_isRich_46 : decode prog_6_method_12_code 46 = .ok (.ifCond .lt 49, 3) := by decide +kernel
theorem dM_isRich_49 : decode prog_6_method_12_code 49 = .ok (.aload_n 0, 1) := by decide +kernel
theorem dM_isRich_50 : decode prog_6_method_12_code 50 = .ok (.getfield 17, 3) := by decide +kernel
theorem dM_isRich_53 : decode prog_6_method_12_code 53 = .ok (.aload_n 0, 1) := by decide +kernel
theorem dM_isRich_54 : decode prog_6_method_12_code 54 = .ok (.getfield 20, 3) := by decide +kernel
theorem dM_isRich_57 : decode prog_6_method_12_code 57 = .ok (.iload_n 2, 1) := by decide +kernel
theorem dM_isRich_58 : decode prog_6_method_12_code 58 = .ok (.iaload, 1) := by decide +kernel
theorem dM_isRich_59 : decode prog_6_method_12_code 59 = .ok (.dup2, 1) := by decide +kernel
theorem dM_isRich_60 : decode prog_6_method_12_code 60 = .ok (.laload, 1) := by decide +kernel
theorem dM_isRich_61 : decode prog_6_method_12_code 61 = .ok (.aload_n 0, 1) := by decide +kernel
theorem dM_isRich_62 : decode prog_6_method_12_code 62 = .ok (.getfield 26, 3) := by decide +kernel
theorem dM_isRich_65 : decode prog_6_method_12_code 65 = .ok (.iload_n 2, 1) := by decide +kernel
theorem dM_isRich_66 : decode prog_6_method_12_code 66 = .ok (.laload, 1) := by decide +kernel
theorem dM_isRich_67 : decode prog_6_method_12_code 67 = .ok (.lsub, 1) := by decide +kernel
theorem dM_isRich_68 : decode prog_6_method_12_code 68 = .ok (.lastore, 1) := by decide +kernel
theorem dM_isRich_69 : decode prog_6_method_12_code 69 = .ok (.iload_n 1, 1) := by decide +kernel
theorem dM_isRich_70 : decode prog_6_method_12_code 70 = .ok (.ifCond .eq 23, 3) := by decide +kernel
theorem dM_isRich_73 : decode prog_6_method_12_code 73 = .ok (.aload_n 0, 1) := by decide +kernel
theorem dM_isRich_74 : decode prog_6_method_12_code 74 = .ok (.getfield 17, 3) := by decide +kernel
theorem dM_isRich_77 : decode prog_6_method_12_code 77 = .ok (.aload_n 0, 1) := by decide +kernel
theorem dM_isRich_78 : decode prog_6_method_12_code 78 = .ok (.getfield 20, 3) := by decide +kernel
theorem dM_isRich_81 : decode prog_6_method_12_code 81 = .ok (.iload_n 2, 1) := by decide +kernel
theorem dM_isRich_82 : decode prog_6_method_12_code 82 = .ok (.iaload, 1) := by decide +kernel
theorem dM_isRich_83 : decode prog_6_method_12_code 83 = .ok (.laload, 1) := by decide +kernel
theorem dM_isRich_84 : decode prog_6_method_12_code 84 = .ok (.lconst 0, 1) := by decide +kernel
theorem dM_isRich_85 : decode prog_6_method_12_code 85 = .ok (.lcmp, 1) := by decide +kernel
theorem dM_isRich_86 : decode prog_6_method_12_code 86 = .ok (.ifCond .lt 7, 3) := by decide +kernel
theorem dM_isRich_89 : decode prog_6_method_12_code 89 = .ok (.iconst 1, 1) := by decide +kernel
theorem dM_isRich_90 : decode prog_6_method_12_code 90 = .ok (.goto 4, 3) := by decide +kernel
theorem dM_isRich_93 : decode prog_6_method_12_code 93 = .ok (.iconst 0, 1) := by decide +kernel
theorem dM_isRich_94 : decode prog_6_method_12_code 94 = .ok (.istore_n 1, 1) := by decide +kernel
theorem dM_isRich_95 : decode prog_6_method_12_code 95 = .ok (.aload_n 0, 1) := by decide +kernel
theorem dM_isRich_96 : decode prog_6_method_12_code 96 = .ok (.getfield 17, 3) := by decide +kernel
theorem dM_isRich_99 : decode prog_6_method_12_code 99 = .ok (.aload_n 0, 1) := by decide +kernel
theorem dM_isRich_100 : decode prog_6_method_12_code 100 = .ok (.getfield 23, 3) := by decide +kernel
theorem dM_isRich_103 : decode prog_6_method_12_code 103 = .ok (.iload_n 2, 1) := by decide +kernel
theorem dM_isRich_104 : decode prog_6_method_12_code 104 = .ok (.iaload, 1) := by decide +kernel
theorem dM_isRich_105 : decode prog_6_method_12_code 105 = .ok (.dup2, 1) := by decide +kernel
theorem dM_isRich_106 : decode prog_6_method_12_code 106 = .ok (.laload, 1) := by decide +kernel
theorem dM_isRich_107 : decode prog_6_method_12_code 107 = .ok (.aload_n 0, 1) := by decide +kernel
theorem dM_isRich_108 : decode prog_6_method_12_code 108 = .ok (.getfield 26, 3) := by decide +kernel
theorem dM_isRich_111 : decode prog_6_method_12_code 111 = .ok (.iload_n 2, 1) := by decide +kernel
theorem dM_isRich_112 : decode prog_6_method_12_code 112 = .ok (.laload, 1) := by decide +kernel
theorem dM_isRich_113 : decode prog_6_method_12_code 113 = .ok (.ladd, 1) := by decide +kernel
theorem dM_isRich_114 : decode prog_6_method_12_code 114 = .ok (.lastore, 1) := by decide +kernel
theorem dM_isRich_115 : decode prog_6_method_12_code 115 = .ok (.iload_n 1, 1) := by decide +kernel
theorem dM_isRich_116 : decode prog_6_method_12_code 116 = .ok (.ifCond .eq 32, 3) := by decide +kernel
theorem dM_isRich_119 : decode prog_6_method_12_code 119 = .ok (.aload_n 0, 1) := by decide +kernel
theorem dM_isRich_120 : decode prog_6_method_12_code 120 = .ok (.getfield 20, 3) := by decide +kernel
theorem dM_isRich_123 : decode prog_6_method_12_code 123 = .ok (.iload_n 2, 1) := by decide +kernel
theorem dM_isRich_124 : decode prog_6_method_12_code 124 = .ok (.iaload, 1) := by decide +kernel
theorem dM_isRich_125 : decode prog_6_method_12_code 125 = .ok (.ifCond .ge 19, 3) := by decide +kernel
theorem dM_isRich_128 : decode prog_6_method_12_code 128 = .ok (.aload_n 0, 1) := by decide +kernel
theorem dM_isRich_129 : decode prog_6_method_12_code 129 = .ok (.getfield 17, 3) := by decide +kernel
theorem dM_isRich_132 : decode prog_6_method_12_code 132 = .ok (.aload_n 0, 1) := by decide +kernel
theorem dM_isRich_133 : decode prog_6_method_12_code 133 = .ok (.getfield 23, 3) := by decide +kernel
theorem dM_isRich_136 : decode prog_6_method_12_code 136 = .ok (.iload_n 2, 1) := by decide +kernel
theorem dM_isRich_137 : decode prog_6_method_12_code 137 = .ok (.iaload, 1) := by decide +kernel
theorem dM_isRich_138 : decode prog_6_method_12_code 138 = .ok (.laload, 1) := by decide +kernel
theorem dM_isRich_139 : decode prog_6_method_12_code 139 = .ok (.lconst 0, 1) := by decide +kernel
theorem dM_isRich_140 : decode prog_6_method_12_code 140 = .ok (.lcmp, 1) := by decide +kernel
theorem dM_isRich_141 : decode prog_6_method_12_code 141 = .ok (.ifCond .lt 7, 3) := by decide +kernel
theorem dM_isRich_144 : decode prog_6_method_12_code 144 = .ok (.iconst 1, 1) := by decide +kernel
theorem dM_isRich_145 : decode prog_6_method_12_code 145 = .ok (.goto 4, 3) := by decide +kernel
theorem dM_isRich_148 : decode prog_6_method_12_code 148 = .ok (.iconst 0, 1) := by decide +kernel
theorem dM_isRich_149 : decode prog_6_method_12_code 149 = .ok (.istore_n 1, 1) := by decide +kernel
theorem dM_isRich_150 : decode prog_6_method_12_code 150 = .ok (.iinc 2 1, 3) := by decide +kernel
theorem dM_isRich_153 : decode prog_6_method_12_code 153 = .ok (.goto (-121), 3) := by decide +kernel
theorem dM_isRich_156 : decode prog_6_method_12_code 156 = .ok (.iload_n 1, 1) := by decide +kernel
theorem dM_isRich_157 : decode prog_6_method_12_code 157 = .ok (.ireturn, 1) := by decide +kernel
theorem dM_drop_0 : decode prog_6_method_14_code 0 = .ok (.aload_n 0, 1) := by decide +kernel
theorem dM_drop_1 : decode prog_6_method_14_code 1 = .ok (.aload_n 0, 1) := by decide +kernel
theorem dM_drop_2 : decode prog_6_method_14_code 2 = .ok (.getfield 52, 3) := by decide +kernel
theorem dM_drop_5 : decode prog_6_method_14_code 5 = .ok (.invokevirtual 84, 3) := by decide +kernel
theorem dM_drop_8 : decode prog_6_method_14_code 8 = .ok (.ifCond .ne 5, 3) := by decide +kernel
theorem dM_drop_11 : decode prog_6_method_14_code 11 = .ok (.iconst 0, 1) := by decide +kernel
theorem dM_drop_12 : decode prog_6_method_14_code 12 = .ok (.ireturn, 1) := by decide +kernel
theorem dM_drop_13 : decode prog_6_method_14_code 13 = .ok (.aload_n 0, 1) := by decide +kernel
theorem dM_drop_14 : decode prog_6_method_14_code 14 = .ok (.iconst 0, 1) := by decide +kernel
theorem dM_drop_15 : decode prog_6_method_14_code 15 = .ok (.putfield 52, 3) := by decide +kernel
theorem dM_drop_18 : decode prog_6_method_14_code 18 = .ok (.aload_n 0, 1) := by decide +kernel
theorem dM_drop_19 : decode prog_6_method_14_code 19 = .ok (.getfield 65, 3) := by decide +kernel
theorem dM_drop_22 : decode prog_6_method_14_code 22 = .ok (.ireturn, 1) := by decide +kernel
theorem dM_snapshot_0 : decode prog_6_method_15_code 0 = .ok (.aload_n 0, 1) := by decide +kernel
theorem dM_snapshot_1 : decode prog_6_method_15_code 1 = .ok (.aload_n 0, 1) := by decide +kernel
theorem dM_snapshot_2 : decode prog_6_method_15_code 2 = .ok (.getfield 52, 3) := by decide +kernel
theorem dM_snapshot_5 : decode prog_6_method_15_code 5 = .ok (.ifCond .ne 7, 3) := by decide +kernel
theorem dM_snapshot_8 : decode prog_6_method_15_code 8 = .ok (.iconst 1, 1) := by decide +kernel
theorem dM_snapshot_9 : decode prog_6_method_15_code 9 = .ok (.goto 4, 3) := by decide +kernel
theorem dM_snapshot_12 : decode prog_6_method_15_code 12 = .ok (.iconst 0, 1) := by decide +kernel
theorem dM_snapshot_13 : decode prog_6_method_15_code 13 = .ok (.invokevirtual 84, 3) := by decide +kernel
theorem dM_snapshot_16 : decode prog_6_method_15_code 16 = .ok (.ifCond .ne 5, 3) := by decide +kernel
theorem dM_snapshot_19 : decode prog_6_method_15_code 19 = .ok (.iconst 0, 1) := by decide +kernel
theorem dM_snapshot_20 : decode prog_6_method_15_code 20 = .ok (.ireturn, 1) := by decide +kernel
theorem dM_snapshot_21 : decode prog_6_method_15_code 21 = .ok (.aload_n 0, 1) := by decide +kernel
theorem dM_snapshot_22 : decode prog_6_method_15_code 22 = .ok (.getfield 33, 3) := by decide +kernel
theorem dM_snapshot_25 : decode prog_6_method_15_code 25 = .ok (.bipush 15, 2) := by decide +kernel
theorem dM_snapshot_27 : decode prog_6_method_15_code 27 = .ok (.iadd, 1) := by decide +kernel
theorem dM_snapshot_28 : decode prog_6_method_15_code 28 = .ok (.bipush 16, 2) := by decide +kernel
theorem dM_snapshot_30 : decode prog_6_method_15_code 30 = .ok (.idiv, 1) := by decide +kernel
theorem dM_snapshot_31 : decode prog_6_method_15_code 31 = .ok (.iconst 1, 1) := by decide +kernel
theorem dM_snapshot_32 : decode prog_6_method_15_code 32 = .ok (.iadd, 1) := by decide +kernel
theorem dM_snapshot_33 : decode prog_6_method_15_code 33 = .ok (.istore_n 1, 1) := by decide +kernel
theorem dM_snapshot_34 : decode prog_6_method_15_code 34 = .ok (.iconst 0, 1) := by decide +kernel
theorem dM_snapshot_35 : decode prog_6_method_15_code 35 = .ok (.istore_n 2, 1) := by decide +kernel
theorem dM_snapshot_36 : decode prog_6_method_15_code 36 = .ok (.iload_n 2, 1) := by decide +kernel
theorem dM_snapshot_37 : decode prog_6_method_15_code 37 = .ok (.iload_n 1, 1) := by decide +kernel
theorem dM_snapshot_38 : decode prog_6_method_15_code 38 = .ok (.if_icmp .ge 20, 3) := by decide +kernel
theorem dM_snapshot_41 : decode prog_6_method_15_code 41 = .ok (.aload_n 0, 1) := by decide +kernel
theorem dM_snapshot_42 : decode prog_6_method_15_code 42 = .ok (.getfield 42, 3) := by decide +kernel
theorem dM_snapshot_45 : decode prog_6_method_15_code 45 = .ok (.ifCond .ne 13, 3) := by decide +kernel
theorem dM_snapshot_48 : decode prog_6_method_15_code 48 = .ok (.aload_n 0, 1) := by decide +kernel
theorem dM_snapshot_49 : decode prog_6_method_15_code 49 = .ok (.invokevirtual 58, 3) := by decide +kernel
theorem dM_snapshot_52 : decode prog_6_method_15_code 52 = .ok (.iinc 2 1, 3) := by decide +kernel
theorem dM_snapshot_55 : decode prog_6_method_15_code 55 = .ok (.goto (-19), 3) := by decide +kernel
theorem dM_snapshot_58 : decode prog_6_method_15_code 58 = .ok (.iload_n 2, 1) := by decide +kernel
theorem dM_snapshot_59 : decode prog_6_method_15_code 59 = .ok (.iload_n 1, 1) := by decide +kernel
theorem dM_snapshot_60 : decode prog_6_method_15_code 60 = .ok (.if_icmp .ne 23, 3) := by decide +kernel
theorem dM_snapshot_63 : decode prog_6_method_15_code 63 = .ok (.aload_n 0, 1) := by decide +kernel
theorem dM_snapshot_64 : decode prog_6_method_15_code 64 = .ok (.iconst 0, 1) := by decide +kernel
theorem dM_snapshot_65 : decode prog_6_method_15_code 65 = .ok (.putfield 55, 3) := by decide +kernel
theorem dM_snapshot_68 : decode prog_6_method_15_code 68 = .ok (.aload_n 0, 1) := by decide +kernel
theorem dM_snapshot_69 : decode prog_6_method_15_code 69 = .ok (.iconst 0, 1) := by decide +kernel
theorem dM_snapshot_70 : decode prog_6_method_15_code 70 = .ok (.putfield 49, 3) := by decide +kernel
theorem dM_snapshot_73 : decode prog_6_method_15_code 73 = .ok (.aload_n 0, 1) := by decide +kernel
theorem dM_snapshot_74 : decode prog_6_method_15_code 74 = .ok (.dup, 1) := by decide +kernel
theorem dM_snapshot_75 : decode prog_6_method_15_code 75 = .ok (.getfield 92, 3) := by decide +kernel
theorem dM_snapshot_78 : decode prog_6_method_15_code 78 = .ok (.iconst 1, 1) := by decide +kernel
theorem dM_snapshot_79 : decode prog_6_method_15_code 79 = .ok (.iadd, 1) := by decide +kernel
theorem dM_snapshot_80 : decode prog_6_method_15_code 80 = .ok (.putfield 92, 3) := by decide +kernel
theorem dM_snapshot_83 : decode prog_6_method_15_code 83 = .ok (.aload_n 0, 1) := by decide +kernel
theorem dM_snapshot_84 : decode prog_6_method_15_code 84 = .ok (.getfield 42, 3) := by decide +kernel
theorem dM_snapshot_87 : decode prog_6_method_15_code 87 = .ok (.ifCond .eq 8, 3) := by decide +kernel
theorem dM_snapshot_90 : decode prog_6_method_15_code 90 = .ok (.bipush (-3), 2) := by decide +kernel
theorem dM_snapshot_92 : decode prog_6_method_15_code 92 = .ok (.goto 4, 3) := by decide +kernel
theorem dM_snapshot_95 : decode prog_6_method_15_code 95 = .ok (.iload_n 1, 1) := by decide +kernel
theorem dM_snapshot_96 : decode prog_6_method_15_code 96 = .ok (.ireturn, 1) := by decide +kernel
theorem dM_crash_0 : decode prog_6_method_16_code 0 = .ok (.aload_n 0, 1) := by decide +kernel
theorem dM_crash_1 : decode prog_6_method_16_code 1 = .ok (.iload_n 1, 1) := by decide +kernel
theorem dM_crash_2 : decode prog_6_method_16_code 2 = .ok (.iconst (-1), 1) := by decide +kernel
theorem dM_crash_3 : decode prog_6_method_16_code 3 = .ok (.if_icmp .lt 14, 3) := by decide +kernel
theorem dM_crash_6 : decode prog_6_method_16_code 6 = .ok (.iload_n 1, 1) := by decide +kernel
theorem dM_crash_7 : decode prog_6_method_16_code 7 = .ok (.sipush 1000, 3) := by decide +kernel
theorem dM_crash_10 : decode prog_6_method_16_code 10 = .ok (.if_icmp .gt 7, 3) := by decide +kernel
theorem dM_crash_13 : decode prog_6_method_16_code 13 = .ok (.iconst 1, 1) := by decide +kernel
theorem dM_crash_14 : decode prog_6_method_16_code 14 = .ok (.goto 4, 3) := by decide +kernel
theorem dM_crash_17 : decode prog_6_method_16_code 17 = .ok (.iconst 0, 1) := by decide +kernel
theorem dM_crash_18 : decode prog_6_method_16_code 18 = .ok (.aload_n 0, 1) := by decide +kernel
theorem dM_crash_19 : decode prog_6_method_16_code 19 = .ok (.getfield 42, 3) := by decide +kernel
theorem dM_crash_22 : decode prog_6_method_16_code 22 = .ok (.ifCond .ne 7, 3) := by decide +kernel
theorem dM_crash_25 : decode prog_6_method_16_code 25 = .ok (.iconst 1, 1) := by decide +kernel
theorem dM_crash_26 : decode prog_6_method_16_code 26 = .ok (.goto 4, 3) := by decide +kernel
theorem dM_crash_29 : decode prog_6_method_16_code 29 = .ok (.iconst 0, 1) := by decide +kernel
theorem dM_crash_30 : decode prog_6_method_16_code 30 = .ok (.invokevirtual 76, 3) := by decide +kernel
theorem dM_crash_33 : decode prog_6_method_16_code 33 = .ok (.ifCond .eq 21, 3) := by decide +kernel
theorem dM_crash_36 : decode prog_6_method_16_code 36 = .ok (.aload_n 0, 1) := by decide +kernel
theorem dM_crash_37 : decode prog_6_method_16_code 37 = .ok (.iload_n 1, 1) := by decide +kernel
theorem dM_crash_38 : decode prog_6_method_16_code 38 = .ok (.putfield 29, 3) := by decide +kernel
theorem dM_crash_41 : decode prog_6_method_16_code 41 = .ok (.aload_n 0, 1) := by decide +kernel
theorem dM_crash_42 : decode prog_6_method_16_code 42 = .ok (.iload_n 1, 1) := by decide +kernel
theorem dM_crash_43 : decode prog_6_method_16_code 43 = .ok (.ifCond .ne 7, 3) := by decide +kernel
theorem dM_crash_46 : decode prog_6_method_16_code 46 = .ok (.iconst 1, 1) := by decide +kernel
theorem dM_crash_47 : decode prog_6_method_16_code 47 = .ok (.goto 4, 3) := by decide +kernel
theorem dM_crash_50 : decode prog_6_method_16_code 50 = .ok (.iconst 0, 1) := by decide +kernel
theorem dM_crash_51 : decode prog_6_method_16_code 51 = .ok (.putfield 42, 3) := by decide +kernel
theorem dM_crash_54 : decode prog_6_method_16_code 54 = .ok (.return_, 1) := by decide +kernel
theorem dM_recover_0 : decode prog_6_method_17_code 0 = .ok (.aload_n 0, 1) := by decide +kernel
theorem dM_recover_1 : decode prog_6_method_17_code 1 = .ok (.iconst 0, 1) := by decide +kernel
theorem dM_recover_2 : decode prog_6_method_17_code 2 = .ok (.putfield 39, 3) := by decide +kernel
theorem dM_recover_5 : decode prog_6_method_17_code 5 = .ok (.aload_n 0, 1) := by decide +kernel
theorem dM_recover_6 : decode prog_6_method_17_code 6 = .ok (.iconst 0, 1) := by decide +kernel
theorem dM_recover_7 : decode prog_6_method_17_code 7 = .ok (.putfield 42, 3) := by decide +kernel
theorem dM_recover_10 : decode prog_6_method_17_code 10 = .ok (.aload_n 0, 1) := by decide +kernel
theorem dM_recover_11 : decode prog_6_method_17_code 11 = .ok (.iconst (-1), 1) := by decide +kernel
theorem dM_recover_12 : decode prog_6_method_17_code 12 = .ok (.putfield 29, 3) := by decide +kernel
theorem dM_recover_15 : decode prog_6_method_17_code 15 = .ok (.aload_n 0, 1) := by decide +kernel
theorem dM_recover_16 : decode prog_6_method_17_code 16 = .ok (.iconst 0, 1) := by decide +kernel
theorem dM_recover_17 : decode prog_6_method_17_code 17 = .ok (.putfield 52, 3) := by decide +kernel
theorem dM_recover_20 : decode prog_6_method_17_code 20 = .ok (.aload_n 0, 1) := by decide +kernel
theorem dM_recover_21 : decode prog_6_method_17_code 21 = .ok (.getfield 49, 3) := by decide +kernel
theorem dM_recover_24 : decode prog_6_method_17_code 24 = .ok (.ireturn, 1) := by decide +kernel
theorem dM_isDown_0 : decode prog_6_method_18_code 0 = .ok (.aload_n 0, 1) := by decide +kernel
theorem dM_isDown_1 : decode prog_6_method_18_code 1 = .ok (.iconst 0, 1) := by decide +kernel
theorem dM_isDown_2 : decode prog_6_method_18_code 2 = .ok (.putfield 39, 3) := by decide +kernel
theorem dM_isDown_5 : decode prog_6_method_18_code 5 = .ok (.aload_n 0, 1) := by decide +kernel
theorem dM_isDown_6 : decode prog_6_method_18_code 6 = .ok (.getfield 42, 3) := by decide +kernel
theorem dM_isDown_9 : decode prog_6_method_18_code 9 = .ok (.ireturn, 1) := by decide +kernel
theorem dM_amount_0 : decode prog_6_method_19_code 0 = .ok (.aload_n 0, 1) := by decide +kernel
theorem dM_amount_1 : decode prog_6_method_19_code 1 = .ok (.aload_n 0, 1) := by decide +kernel
theorem dM_amount_2 : decode prog_6_method_19_code 2 = .ok (.iload_n 1, 1) := by decide +kernel
theorem dM_amount_3 : decode prog_6_method_19_code 3 = .ok (.invokevirtual 68, 3) := by decide +kernel
theorem dM_amount_6 : decode prog_6_method_19_code 6 = .ok (.aload_n 0, 1) := by decide +kernel
theorem dM_amount_7 : decode prog_6_method_19_code 7 = .ok (.getfield 42, 3) := by decide +kernel
theorem dM_amount_10 : decode prog_6_method_19_code 10 = .ok (.ifCond .ne 7, 3) := by decide +kernel
theorem dM_amount_13 : decode prog_6_method_19_code 13 = .ok (.iconst 1, 1) := by decide +kernel
theorem dM_amount_14 : decode prog_6_method_19_code 14 = .ok (.goto 4, 3) := by decide +kernel
theorem dM_amount_17 : decode prog_6_method_19_code 17 = .ok (.iconst 0, 1) := by decide +kernel
theorem dM_amount_18 : decode prog_6_method_19_code 18 = .ok (.invokevirtual 76, 3) := by decide +kernel
theorem dM_amount_21 : decode prog_6_method_19_code 21 = .ok (.ifCond .eq 12, 3) := by decide +kernel
theorem dM_amount_24 : decode prog_6_method_19_code 24 = .ok (.aload_n 0, 1) := by decide +kernel
theorem dM_amount_25 : decode prog_6_method_19_code 25 = .ok (.getfield 7, 3) := by decide +kernel
theorem dM_amount_28 : decode prog_6_method_19_code 28 = .ok (.iload_n 1, 1) := by decide +kernel
theorem dM_amount_29 : decode prog_6_method_19_code 29 = .ok (.laload, 1) := by decide +kernel
theorem dM_amount_30 : decode prog_6_method_19_code 30 = .ok (.goto 4, 3) := by decide +kernel
theorem dM_amount_33 : decode prog_6_method_19_code 33 = .ok (.lconst 0, 1) := by decide +kernel
theorem dM_amount_34 : decode prog_6_method_19_code 34 = .ok (.lreturn, 1) := by decide +kernel
theorem dM_changes_0 : decode prog_6_method_20_code 0 = .ok (.aload_n 0, 1) := by decide +kernel
theorem dM_changes_1 : decode prog_6_method_20_code 1 = .ok (.aload_n 0, 1) := by decide +kernel
theorem dM_changes_2 : decode prog_6_method_20_code 2 = .ok (.iload_n 1, 1) := by decide +kernel
theorem dM_changes_3 : decode prog_6_method_20_code 3 = .ok (.invokevirtual 68, 3) := by decide +kernel
theorem dM_changes_6 : decode prog_6_method_20_code 6 = .ok (.aload_n 0, 1) := by decide +kernel
theorem dM_changes_7 : decode prog_6_method_20_code 7 = .ok (.getfield 42, 3) := by decide +kernel
theorem dM_changes_10 : decode prog_6_method_20_code 10 = .ok (.ifCond .ne 7, 3) := by decide +kernel
theorem dM_changes_13 : decode prog_6_method_20_code 13 = .ok (.iconst 1, 1) := by decide +kernel
theorem dM_changes_14 : decode prog_6_method_20_code 14 = .ok (.goto 4, 3) := by decide +kernel
theorem dM_changes_17 : decode prog_6_method_20_code 17 = .ok (.iconst 0, 1) := by decide +kernel
theorem dM_changes_18 : decode prog_6_method_20_code 18 = .ok (.invokevirtual 76, 3) := by decide +kernel
theorem dM_changes_21 : decode prog_6_method_20_code 21 = .ok (.ifCond .eq 12, 3) := by decide +kernel
theorem dM_changes_24 : decode prog_6_method_20_code 24 = .ok (.aload_n 0, 1) := by decide +kernel
theorem dM_changes_25 : decode prog_6_method_20_code 25 = .ok (.getfield 13, 3) := by decide +kernel
theorem dM_changes_28 : decode prog_6_method_20_code 28 = .ok (.iload_n 1, 1) := by decide +kernel
theorem dM_changes_29 : decode prog_6_method_20_code 29 = .ok (.iaload, 1) := by decide +kernel
theorem dM_changes_30 : decode prog_6_method_20_code 30 = .ok (.goto 4, 3) := by decide +kernel
theorem dM_changes_33 : decode prog_6_method_20_code 33 = .ok (.iconst 0, 1) := by decide +kernel
theorem dM_changes_34 : decode prog_6_method_20_code 34 = .ok (.ireturn, 1) := by decide +kernel
theorem dM_count_0 : decode prog_6_method_21_code 0 = .ok (.aload_n 0, 1) := by decide +kernel
theorem dM_count_1 : decode prog_6_method_21_code 1 = .ok (.iload_n 1, 1) := by decide +kernel
theorem dM_count_2 : decode prog_6_method_21_code 2 = .ok (.ifCond .lt 12, 3) := by decide +kernel
theorem dM_count_5 : decode prog_6_method_21_code 5 = .ok (.iload_n 1, 1) := by decide +kernel
theorem dM_count_6 : decode prog_6_method_21_code 6 = .ok (.iconst 3, 1) := by decide +kernel
theorem dM_count_7 : decode prog_6_method_21_code 7 = .ok (.if_icmp .gt 7, 3) := by decide +kernel
theorem dM_count_10 : decode prog_6_method_21_code 10 = .ok (.iconst 1, 1) := by decide +kernel
theorem dM_count_11 : decode prog_6_method_21_code 11 = .ok (.goto 4, 3) := by decide +kernel
theorem dM_count_14 : decode prog_6_method_21_code 14 = .ok (.iconst 0, 1) := by decide +kernel
theorem dM_count_15 : decode prog_6_method_21_code 15 = .ok (.aload_n 0, 1) := by decide +kernel
theorem dM_count_16 : decode prog_6_method_21_code 16 = .ok (.getfield 42, 3) := by decide +kernel
theorem dM_count_19 : decode prog_6_method_21_code 19 = .ok (.ifCond .ne 7, 3) := by decide +kernel
theorem dM_count_22 : decode prog_6_method_21_code 22 = .ok (.iconst 1, 1) := by decide +kernel
theorem dM_count_23 : decode prog_6_method_21_code 23 = .ok (.goto 4, 3) := by decide +kernel
theorem dM_count_26 : decode prog_6_method_21_code 26 = .ok (.iconst 0, 1) := by decide +kernel
theorem dM_count_27 : decode prog_6_method_21_code 27 = .ok (.invokevirtual 76, 3) := by decide +kernel
theorem dM_count_30 : decode prog_6_method_21_code 30 = .ok (.ifCond .ne 5, 3) := by decide +kernel
theorem dM_count_33 : decode prog_6_method_21_code 33 = .ok (.iconst 0, 1) := by decide +kernel
theorem dM_count_34 : decode prog_6_method_21_code 34 = .ok (.ireturn, 1) := by decide +kernel
theorem dM_count_35 : decode prog_6_method_21_code 35 = .ok (.iload_n 1, 1) := by decide +kernel
theorem dM_count_36 : decode prog_6_method_21_code 36 = .ok (.ifCond .ne 10, 3) := by decide +kernel
theorem dM_count_39 : decode prog_6_method_21_code 39 = .ok (.aload_n 0, 1) := by decide +kernel
theorem dM_count_40 : decode prog_6_method_21_code 40 = .ok (.getfield 55, 3) := by decide +kernel
theorem dM_count_43 : decode prog_6_method_21_code 43 = .ok (.goto 42, 3) := by decide +kernel
theorem dM_count_46 : decode prog_6_method_21_code 46 = .ok (.iload_n 1, 1) := by decide +kernel
theorem dM_count_47 : decode prog_6_method_21_code 47 = .ok (.iconst 1, 1) := by decide +kernel
theorem dM_count_48 : decode prog_6_method_21_code 48 = .ok (.if_icmp .ne 10, 3) := by decide +kernel
theorem dM_count_51 : decode prog_6_method_21_code 51 = .ok (.aload_n 0, 1) := by decide +kernel
theorem dM_count_52 : decode prog_6_method_21_code 52 = .ok (.getfield 46, 3) := by decide +kernel
theorem dM_count_55 : decode prog_6_method_21_code 55 = .ok (.goto 30, 3) := by decide +kernel
theorem dM_count_58 : decode prog_6_method_21_code 58 = .ok (.iload_n 1, 1) := by decide +kernel
theorem dM_count_59 : decode prog_6_method_21_code 59 = .ok (.iconst 2, 1) := by decide +kernel
theorem dM_count_60 : decode prog_6_method_21_code 60 = .ok (.if_icmp .ne 21, 3) := by decide +kernel
theorem dM_count_63 : decode prog_6_method_21_code 63 = .ok (.aload_n 0, 1) := by decide +kernel
theorem dM_count_64 : decode prog_6_method_21_code 64 = .ok (.getfield 52, 3) := by decide +kernel
theorem dM_count_67 : decode prog_6_method_21_code 67 = .ok (.ifCond .eq 10, 3) := by decide +kernel
theorem dM_count_70 : decode prog_6_method_21_code 70 = .ok (.aload_n 0, 1) := by decide +kernel
theorem dM_count_71 : decode prog_6_method_21_code 71 = .ok (.getfield 65, 3) := by decide +kernel
theorem dM_count_74 : decode prog_6_method_21_code 74 = .ok (.goto 11, 3) := by decide +kernel
theorem dM_count_77 : decode prog_6_method_21_code 77 = .ok (.iconst (-1), 1) := by decide +kernel
theorem dM_count_78 : decode prog_6_method_21_code 78 = .ok (.goto 7, 3) := by decide +kernel
theorem dM_count_81 : decode prog_6_method_21_code 81 = .ok (.aload_n 0, 1) := by decide +kernel
theorem dM_count_82 : decode prog_6_method_21_code 82 = .ok (.getfield 92, 3) := by decide +kernel
theorem dM_count_85 : decode prog_6_method_21_code 85 = .ok (.ireturn, 1) := by decide +kernel
