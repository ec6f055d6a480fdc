theorem dR_init_0 : decode prog_1_method_1_code 0 = .ok (.aload_n 0, 1) := by decide +kernel
theorem dR_init_1 : decode prog_1_method_1_code 1 = .ok (.invokespecial 1, 3) := by decide +kernel
theorem dR_init_4 : decode prog_1_method_1_code 4 = .ok (.iconst 1, 1) := by decide +kernel
theorem dR_init_5 : decode prog_1_method_1_code 5 = .ok (.bipush 64, 2) := by decide +kernel
theorem dR_init_7 : decode prog_1_method_1_code 7 = .ok (.iload_n 1, 1) := by decide +kernel
theorem dR_init_8 : decode prog_1_method_1_code 8 = .ok (.invokestatic 9, 3) := by decide +kernel
theorem dR_init_11 : decode prog_1_method_1_code 11 = .ok (.invokestatic 15, 3) := by decide +kernel
theorem dR_init_14 : decode prog_1_method_1_code 14 = .ok (.istore_n 3, 1) := by decide +kernel
theorem dR_init_15 : decode prog_1_method_1_code 15 = .ok (.iconst 4, 1) := by decide +kernel
theorem dR_init_16 : decode prog_1_method_1_code 16 = .ok (.bipush 60, 2) := by decide +kernel
theorem dR_init_18 : decode prog_1_method_1_code 18 = .ok (.iload_n 2, 1) := by decide +kernel
theorem dR_init_19 : decode prog_1_method_1_code 19 = .ok (.invokestatic 9, 3) := by decide +kernel
theorem dR_init_22 : decode prog_1_method_1_code 22 = .ok (.invokestatic 15, 3) := by decide +kernel
theorem dR_init_25 : decode prog_1_method_1_code 25 = .ok (.istore 4, 2) := by decide +kernel
theorem dR_init_27 : decode prog_1_method_1_code 27 = .ok (.aload_n 0, 1) := by decide +kernel
theorem dR_init_28 : decode prog_1_method_1_code 28 = .ok (.new 18, 3) := by decide +kernel
theorem dR_init_31 : decode prog_1_method_1_code 31 = .ok (.dup, 1) := by decide +kernel
theorem dR_init_32 : decode prog_1_method_1_code 32 = .ok (.iload_n 3, 1) := by decide +kernel
theorem dR_init_33 : decode prog_1_method_1_code 33 = .ok (.invokespecial 20, 3) := by decide +kernel
theorem dR_init_36 : decode prog_1_method_1_code 36 = .ok (.putfield 23, 3) := by decide +kernel
theorem dR_init_39 : decode prog_1_method_1_code 39 = .ok (.aload_n 0, 1) := by decide +kernel
theorem dR_init_40 : decode prog_1_method_1_code 40 = .ok (.new 18, 3) := by decide +kernel
theorem dR_init_43 : decode prog_1_method_1_code 43 = .ok (.dup, 1) := by decide +kernel
theorem dR_init_44 : decode prog_1_method_1_code 44 = .ok (.iload_n 3, 1) := by decide +kernel
theorem dR_init_45 : decode prog_1_method_1_code 45 = .ok (.invokespecial 20, 3) := by decide +kernel
theorem dR_init_48 : decode prog_1_method_1_code 48 = .ok (.putfield 27, 3) := by decide +kernel
theorem dR_init_51 : decode prog_1_method_1_code 51 = .ok (.aload_n 0, 1) := by decide +kernel
theorem dR_init_52 : decode prog_1_method_1_code 52 = .ok (.new 18, 3) := by decide +kernel
theorem dR_init_55 : decode prog_1_method_1_code 55 = .ok (.dup, 1) := by decide +kernel
theorem dR_init_56 : decode prog_1_method_1_code 56 = .ok (.iload_n 3, 1) := by decide +kernel
theorem dR_init_57 : decode prog_1_method_1_code 57 = .ok (.invokespecial 20, 3) := by decide +kernel
theorem dR_init_60 : decode prog_1_method_1_code 60 = .ok (.putfield 30, 3) := by decide +kernel
theorem dR_init_63 : decode prog_1_method_1_code 63 = .ok (.aload_n 0, 1) := by decide +kernel
theorem dR_init_64 : decode prog_1_method_1_code 64 = .ok (.new 33, 3) := by decide +kernel
theorem dR_init_67 : decode prog_1_method_1_code 67 = .ok (.dup, 1) := by decide +kernel
theorem dR_init_68 : decode prog_1_method_1_code 68 = .ok (.iload 4, 2) := by decide +kernel
theorem dR_init_70 : decode prog_1_method_1_code 70 = .ok (.invokespecial 35, 3) := by decide +kernel
theorem dR_init_73 : decode prog_1_method_1_code 73 = .ok (.putfield 36, 3) := by decide +kernel
theorem dR_init_76 : decode prog_1_method_1_code 76 = .ok (.aload_n 0, 1) := by decide +kernel
theorem dR_init_77 : decode prog_1_method_1_code 77 = .ok (.new 40, 3) := by decide +kernel
theorem dR_init_80 : decode prog_1_method_1_code 80 = .ok (.dup, 1) := by decide +kernel
theorem dR_init_81 : decode prog_1_method_1_code 81 = .ok (.invokespecial 42, 3) := by decide +kernel
theorem dR_init_84 : decode prog_1_method_1_code 84 = .ok (.putfield 43, 3) := by decide +kernel
theorem dR_init_87 : decode prog_1_method_1_code 87 = .ok (.aload_n 0, 1) := by decide +kernel
theorem dR_init_88 : decode prog_1_method_1_code 88 = .ok (.iconst (-1), 1) := by decide +kernel
theorem dR_init_89 : decode prog_1_method_1_code 89 = .ok (.putfield 47, 3) := by decide +kernel
theorem dR_init_92 : decode prog_1_method_1_code 92 = .ok (.aload_n 0, 1) := by decide +kernel
theorem dR_init_93 : decode prog_1_method_1_code 93 = .ok (.iconst 0, 1) := by decide +kernel
theorem dR_init_94 : decode prog_1_method_1_code 94 = .ok (.putfield 51, 3) := by decide +kernel
theorem dR_init_97 : decode prog_1_method_1_code 97 = .ok (.return_, 1) := by decide +kernel
theorem dA_init_0 : decode prog_2_method_1_code 0 = .ok (.aload_n 0, 1) := by decide +kernel
theorem dA_init_1 : decode prog_2_method_1_code 1 = .ok (.invokespecial 1, 3) := by decide +kernel
theorem dA_init_4 : decode prog_2_method_1_code 4 = .ok (.aload_n 0, 1) := by decide +kernel
theorem dA_init_5 : decode prog_2_method_1_code 5 = .ok (.iload_n 1, 1) := by decide +kernel
theorem dA_init_6 : decode prog_2_method_1_code 6 = .ok (.newarray .long, 2) := by decide +kernel
theorem dA_init_8 : decode prog_2_method_1_code 8 = .ok (.putfield 7, 3) := by decide +kernel
theorem dA_init_11 : decode prog_2_method_1_code 11 = .ok (.aload_n 0, 1) := by decide +kernel
theorem dA_init_12 : decode prog_2_method_1_code 12 = .ok (.iload_n 1, 1) := by decide +kernel
theorem dA_init_13 : decode prog_2_method_1_code 13 = .ok (.newarray .int, 2) := by decide +kernel
theorem dA_init_15 : decode prog_2_method_1_code 15 = .ok (.putfield 13, 3) := by decide +kernel
theorem dA_init_18 : decode prog_2_method_1_code 18 = .ok (.return_, 1) := by decide +kernel
theorem dJ_init_0 : decode prog_4_method_1_code 0 = .ok (.aload_n 0, 1) := by decide +kernel
theorem dJ_init_1 : decode prog_4_method_1_code 1 = .ok (.invokespecial 1, 3) := by decide +kernel
theorem dJ_init_4 : decode prog_4_method_1_code 4 = .ok (.aload_n 0, 1) := by decide +kernel
theorem dJ_init_5 : decode prog_4_method_1_code 5 = .ok (.iload_n 1, 1) := by decide +kernel
theorem dJ_init_6 : decode prog_4_method_1_code 6 = .ok (.newarray .int, 2) := by decide +kernel
theorem dJ_init_8 : decode prog_4_method_1_code 8 = .ok (.putfield 7, 3) := by decide +kernel
theorem dJ_init_11 : decode prog_4_method_1_code 11 = .ok (.aload_n 0, 1) := by decide +kernel
theorem dJ_init_12 : decode prog_4_method_1_code 12 = .ok (.iload_n 1, 1) := by decide +kernel
theorem dJ_init_13 : decode prog_4_method_1_code 13 = .ok (.newarray .int, 2) := by decide +kernel
theorem dJ_init_15 : decode prog_4_method_1_code 15 = .ok (.putfield 13, 3) := by decide +kernel
theorem dJ_init_18 : decode prog_4_method_1_code 18 = .ok (.aload_n 0, 1) := by decide +kernel
theorem dJ_init_19 : decode prog_4_method_1_code 19 = .ok (.iload_n 1, 1) := by decide +kernel
theorem dJ_init_20 : decode prog_4_method_1_code 20 = .ok (.newarray .long, 2) := by decide +kernel
theorem dJ_init_22 : decode prog_4_method_1_code 22 = .ok (.putfield 16, 3) := by decide +kernel
theorem dJ_init_25 : decode prog_4_method_1_code 25 = .ok (.aload_n 0, 1) := by decide +kernel
theorem dJ_init_26 : decode prog_4_method_1_code 26 = .ok (.iload_n 1, 1) := by decide +kernel
theorem dJ_init_27 : decode prog_4_method_1_code 27 = .ok (.newarray .boolean, 2) := by decide +kernel
theorem dJ_init_29 : decode prog_4_method_1_code 29 = .ok (.putfield 20, 3) := by decide +kernel
theorem dJ_init_32 : decode prog_4_method_1_code 32 = .ok (.aload_n 0, 1) := by decide +kernel
theorem dJ_init_33 : decode prog_4_method_1_code 33 = .ok (.iconst 0, 1) := by decide +kernel
theorem dJ_init_34 : decode prog_4_method_1_code 34 = .ok (.putfield 24, 3) := by decide +kernel
theorem dJ_init_37 : decode prog_4_method_1_code 37 = .ok (.return_, 1) := by decide +kernel
theorem dD_init_0 : decode prog_3_method_1_code 0 = .ok (.aload_n 0, 1) := by decide +kernel
theorem dD_init_1 : decode prog_3_method_1_code 1 = .ok (.invokespecial 3, 3) := by decide +kernel
theorem dD_init_4 : decode prog_3_method_1_code 4 = .ok (.aload_n 0, 1) := by decide +kernel
theorem dD_init_5 : decode prog_3_method_1_code 5 = .ok (.iconst 0, 1) := by decide +kernel
theorem dD_init_6 : decode prog_3_method_1_code 6 = .ok (.putfield 9, 3) := by decide +kernel
theorem dD_init_9 : decode prog_3_method_1_code 9 = .ok (.aload_n 0, 1) := by decide +kernel
theorem dD_init_10 : decode prog_3_method_1_code 10 = .ok (.iconst (-1), 1) := by decide +kernel
theorem dD_init_11 : decode prog_3_method_1_code 11 = .ok (.putfield 15, 3) := by decide +kernel
theorem dD_init_14 : decode prog_3_method_1_code 14 = .ok (.return_, 1) := by decide +kernel
theorem dR_recover_0 : decode prog_1_method_9_code 0 = .ok (.aload_n 0, 1) := by decide +kernel
theorem dR_recover_1 : decode prog_1_method_9_code 1 = .ok (.getfield 43, 3) := by decide +kernel
theorem dR_recover_4 : decode prog_1_method_9_code 4 = .ok (.invokevirtual 122, 3) := by decide +kernel
theorem dR_recover_7 : decode prog_1_method_9_code 7 = .ok (.aload_n 0, 1) := by decide +kernel
theorem dR_recover_8 : decode prog_1_method_9_code 8 = .ok (.iconst (-1), 1) := by decide +kernel
theorem dR_recover_9 : decode prog_1_method_9_code 9 = .ok (.putfield 47, 3) := by decide +kernel
theorem dR_recover_12 : decode prog_1_method_9_code 12 = .ok (.aload_n 0, 1) := by decide +kernel
theorem dR_recover_13 : decode prog_1_method_9_code 13 = .ok (.getfield 23, 3) := by decide +kernel
theorem dR_recover_16 : decode prog_1_method_9_code 16 = .ok (.aload_n 0, 1) := by decide +kernel
theorem dR_recover_17 : decode prog_1_method_9_code 17 = .ok (.getfield 27, 3) := by decide +kernel
theorem dR_recover_20 : decode prog_1_method_9_code 20 = .ok (.invokevirtual 85, 3) := by decide +kernel
theorem dR_recover_23 : decode prog_1_method_9_code 23 = .ok (.aload_n 0, 1) := by decide +kernel
theorem dR_recover_24 : decode prog_1_method_9_code 24 = .ok (.getfield 36, 3) := by decide +kernel
theorem dR_recover_27 : decode prog_1_method_9_code 27 = .ok (.aload_n 0, 1) := by decide +kernel
theorem dR_recover_28 : decode prog_1_method_9_code 28 = .ok (.getfield 23, 3) := by decide +kernel
theorem dR_recover_31 : decode prog_1_method_9_code 31 = .ok (.invokevirtual 125, 3) := by decide +kernel
theorem dR_recover_34 : decode prog_1_method_9_code 34 = .ok (.ireturn, 1) := by decide +kernel
theorem dD_restart_0 : decode prog_3_method_5_code 0 = .ok (.aload_n 0, 1) := by decide +kernel
theorem dD_restart_1 : decode prog_3_method_5_code 1 = .ok (.iconst (-1), 1) := by decide +kernel
theorem dD_restart_2 : decode prog_3_method_5_code 2 = .ok (.putfield 15, 3) := by decide +kernel
theorem dD_restart_5 : decode prog_3_method_5_code 5 = .ok (.return_, 1) := by decide +kernel
theorem dA_copyFrom_0 : decode prog_2_method_9_code 0 = .ok (.aload_n 0, 1) := by decide +kernel
theorem dA_copyFrom_1 : decode prog_2_method_9_code 1 = .ok (.getfield 7, 3) := by decide +kernel
theorem dA_copyFrom_4 : decode prog_2_method_9_code 4 = .ok (.arraylength, 1) := by decide +kernel
theorem dA_copyFrom_5 : decode prog_2_method_9_code 5 = .ok (.aload_n 1, 1) := by decide +kernel
theorem dA_copyFrom_6 : decode prog_2_method_9_code 6 = .ok (.getfield 7, 3) := by decide +kernel
theorem dA_copyFrom_9 : decode prog_2_method_9_code 9 = .ok (.arraylength, 1) := by decide +kernel
theorem dA_copyFrom_10 : decode prog_2_method_9_code 10 = .ok (.invokestatic 25, 3) := by decide +kernel
theorem dA_copyFrom_13 : decode prog_2_method_9_code 13 = .ok (.istore_n 2, 1) := by decide +kernel
theorem dA_copyFrom_14 : decode prog_2_method_9_code 14 = .ok (.iconst 0, 1) := by decide +kernel
theorem dA_copyFrom_15 : decode prog_2_method_9_code 15 = .ok (.istore_n 3, 1) := by decide +kernel
theorem dA_copyFrom_16 : decode prog_2_method_9_code 16 = .ok (.iload_n 3, 1) := by decide +kernel
theorem dA_copyFrom_17 : decode prog_2_method_9_code 17 = .ok (.iload_n 2, 1) := by decide +kernel
theorem dA_copyFrom_18 : decode prog_2_method_9_code 18 = .ok (.if_icmp .ge 33, 3) := by decide +kernel
theorem dA_copyFrom_21 : decode prog_2_method_9_code 21 = .ok (.aload_n 0, 1) := by decide +kernel
theorem dA_copyFrom_22 : decode prog_2_method_9_code 22 = .ok (.getfield 7, 3) := by decide +kernel
theorem dA_copyFrom_25 : decode prog_2_method_9_code 25 = .ok (.iload_n 3, 1) := by decide +kernel
theorem dA_copyFrom_26 : decode prog_2_method_9_code 26 = .ok (.aload_n 1, 1) := by decide +kernel
theorem dA_copyFrom_27 : decode prog_2_method_9_code 27 = .ok (.getfield 7, 3) := by decide +kernel
theorem dA_copyFrom_30 : decode prog_2_method_9_code 30 = .ok (.iload_n 3, 1) := by decide +kernel
theorem dA_copyFrom_31 : decode prog_2_method_9_code 31 = .ok (.laload, 1) := by decide +kernel
theorem dA_copyFrom_32 : decode prog_2_method_9_code 32 = .ok (.lastore, 1) := by decide +kernel
theorem dA_copyFrom_33 : decode prog_2_method_9_code 33 = .ok (.aload_n 0, 1) := by decide +kernel
theorem dA_copyFrom_34 : decode prog_2_method_9_code 34 = .ok (.getfield 13, 3) := by decide +kernel
theorem dA_copyFrom_37 : decode prog_2_method_9_code 37 = .ok (.iload_n 3, 1) := by decide +kernel
theorem dA_copyFrom_38 : decode prog_2_method_9_code 38 = .ok (.aload_n 1, 1) := by decide +kernel
theorem dA_copyFrom_39 : decode prog_2_method_9_code 39 = .ok (.getfield 13, 3) := by decide +kernel
theorem dA_copyFrom_42 : decode prog_2_method_9_code 42 = .ok (.iload_n 3, 1) := by decide +kernel
theorem dA_copyFrom_43 : decode prog_2_method_9_code 43 = .ok (.iaload, 1) := by decide +kernel
theorem dA_copyFrom_44 : decode prog_2_method_9_code 44 = .ok (.iastore, 1) := by decide +kernel
theorem dA_copyFrom_45 : decode prog_2_method_9_code 45 = .ok (.iinc 3 1, 3) := by decide +kernel
theorem dA_copyFrom_48 : decode prog_2_method_9_code 48 = .ok (.goto (-32), 3) := by decide +kernel
theorem dA_copyFrom_51 : decode prog_2_method_9_code 51 = .ok (.return_, 1) := by decide +kernel
theorem dJ_replay_0 : decode prog_4_method_7_code 0 = .ok (.iconst 0, 1) := by decide +kernel
theorem dJ_replay_1 : decode prog_4_method_7_code 1 = .ok (.istore_n 2, 1) := by decide +kernel
theorem dJ_replay_2 : decode prog_4_method_7_code 2 = .ok (.iconst 0, 1) := by decide +kernel
theorem dJ_replay_3 : decode prog_4_method_7_code 3 = .ok (.istore_n 3, 1) := by decide +kernel
theorem dJ_replay_4 : decode prog_4_method_7_code 4 = .ok (.iload_n 3, 1) := by decide +kernel
theorem dJ_replay_5 : decode prog_4_method_7_code 5 = .ok (.aload_n 0, 1) := by decide +kernel
theorem dJ_replay_6 : decode prog_4_method_7_code 6 = .ok (.getfield 24, 3) := by decide +kernel
theorem dJ_replay_9 : decode prog_4_method_7_code 9 = .ok (.if_icmp .ge 43, 3) := by decide +kernel
theorem dJ_replay_12 : decode prog_4_method_7_code 12 = .ok (.aload_n 0, 1) := by decide +kernel
theorem dJ_replay_13 : decode prog_4_method_7_code 13 = .ok (.getfield 20, 3) := by decide +kernel
theorem dJ_replay_16 : decode prog_4_method_7_code 16 = .ok (.iload_n 3, 1) := by decide +kernel
theorem dJ_replay_17 : decode prog_4_method_7_code 17 = .ok (.baload, 1) := by decide +kernel
theorem dJ_replay_18 : decode prog_4_method_7_code 18 = .ok (.ifCond .eq 28, 3) := by decide +kernel
theorem dJ_replay_21 : decode prog_4_method_7_code 21 = .ok (.aload_n 1, 1) := by decide +kernel
theorem dJ_replay_22 : decode prog_4_method_7_code 22 = .ok (.aload_n 0, 1) := by decide +kernel
theorem dJ_replay_23 : decode prog_4_method_7_code 23 = .ok (.getfield 7, 3) := by decide +kernel
theorem dJ_replay_26 : decode prog_4_method_7_code 26 = .ok (.iload_n 3, 1) := by decide +kernel
theorem dJ_replay_27 : decode prog_4_method_7_code 27 = .ok (.iaload, 1) := by decide +kernel
theorem dJ_replay_28 : decode prog_4_method_7_code 28 = .ok (.aload_n 0, 1) := by decide +kernel
theorem dJ_replay_29 : decode prog_4_method_7_code 29 = .ok (.getfield 13, 3) := by decide +kernel
theorem dJ_replay_32 : decode prog_4_method_7_code 32 = .ok (.iload_n 3, 1) := by decide +kernel
theorem dJ_replay_33 : decode prog_4_method_7_code 33 = .ok (.iaload, 1) := by decide +kernel
theorem dJ_replay_34 : decode prog_4_method_7_code 34 = .ok (.aload_n 0, 1) := by decide +kernel
theorem dJ_replay_35 : decode prog_4_method_7_code 35 = .ok (.getfield 16, 3) := by decide +kernel
theorem dJ_replay_38 : decode prog_4_method_7_code 38 = .ok (.iload_n 3, 1) := by decide +kernel
theorem dJ_replay_39 : decode prog_4_method_7_code 39 = .ok (.laload, 1) := by decide +kernel
theorem dJ_replay_40 : decode prog_4_method_7_code 40 = .ok (.invokevirtual 38, 3) := by decide +kernel
theorem dJ_replay_43 : decode prog_4_method_7_code 43 = .ok (.iinc 2 1, 3) := by decide +kernel
theorem dJ_replay_46 : decode prog_4_method_7_code 46 = .ok (.iinc 3 1, 3) := by decide +kernel
theorem dJ_replay_49 : decode prog_4_method_7_code 49 = .ok (.goto (-45), 3) := by decide +kernel
theorem dJ_replay_52 : decode prog_4_method_7_code 52 = .ok (.iload_n 2, 1) := by decide +kernel
theorem dJ_replay_53 : decode prog_4_method_7_code 53 = .ok (.ireturn, 1) := by decide +kernel
theorem dA_apply_0 : decode prog_2_method_7_code 0 = .ok (.aload_n 0, 1) := by decide +kernel
theorem dA_apply_1 : decode prog_2_method_7_code 1 = .ok (.iload_n 1, 1) := by decide +kernel
theorem dA_apply_2 : decode prog_2_method_7_code 2 = .ok (.lload_n 3, 1) := by decide +kernel
theorem dA_apply_3 : decode prog_2_method_7_code 3 = .ok (.lneg, 1) := by decide +kernel
theorem dA_apply_4 : decode prog_2_method_7_code 4 = .ok (.invokevirtual 21, 3) := by decide +kernel
theorem dA_apply_7 : decode prog_2_method_7_code 7 = .ok (.aload_n 0, 1) := by decide +kernel
theorem dA_apply_8 : decode prog_2_method_7_code 8 = .ok (.iload_n 2, 1) := by decide +kernel
theorem dA_apply_9 : decode prog_2_method_7_code 9 = .ok (.lload_n 3, 1) := by decide +kernel
theorem dA_apply_10 : decode prog_2_method_7_code 10 = .ok (.invokevirtual 21, 3) := by decide +kernel
theorem dA_apply_13 : decode prog_2_method_7_code 13 = .ok (.return_, 1) := by decide +kernel
theorem dA_changeOne_0 : decode prog_2_method_8_code 0 = .ok (.aload_n 0, 1) := by decide +kernel
theorem dA_changeOne_1 : decode prog_2_method_8_code 1 = .ok (.iload_n 1, 1) := by decide +kernel
theorem dA_changeOne_2 : decode prog_2_method_8_code 2 = .ok (.invokevirtual 17, 3) := by decide +kernel
theorem dA_changeOne_5 : decode prog_2_method_8_code 5 = .ok (.ifCond .eq 23, 3) := by decide +kernel
theorem dA_changeOne_8 : decode prog_2_method_8_code 8 = .ok (.aload_n 0, 1) := by decide +kernel
theorem dA_changeOne_9 : decode prog_2_method_8_code 9 = .ok (.getfield 7, 3) := by decide +kernel
theorem dA_changeOne_12 : decode prog_2_method_8_code 12 = .ok (.iload_n 1, 1) := by decide +kernel
theorem dA_changeOne_13 : decode prog_2_method_8_code 13 = .ok (.dup2, 1) := by decide +kernel
theorem dA_changeOne_14 : decode prog_2_method_8_code 14 = .ok (.laload, 1) := by decide +kernel
theorem dA_changeOne_15 : decode prog_2_method_8_code 15 = .ok (.lload_n 2, 1) := by decide +kernel
theorem dA_changeOne_16 : decode prog_2_method_8_code 16 = .ok (.ladd, 1) := by decide +kernel
theorem dA_changeOne_17 : decode prog_2_method_8_code 17 = .ok (.lastore, 1) := by decide +kernel
theorem dA_changeOne_18 : decode prog_2_method_8_code 18 = .ok (.aload_n 0, 1) := by decide +kernel
theorem dA_changeOne_19 : decode prog_2_method_8_code 19 = .ok (.getfield 13, 3) := by decide +kernel
theorem dA_changeOne_22 : decode prog_2_method_8_code 22 = .ok (.iload_n 1, 1) := by decide +kernel
theorem dA_changeOne_23 : decode prog_2_method_8_code 23 = .ok (.dup2, 1) := by decide +kernel
theorem dA_changeOne_24 : decode prog_2_method_8_code 24 = .ok (.iaload, 1) := by decide +kernel
theorem dA_changeOne_25 : decode prog_2_method_8_code 25 = .ok (.iconst 1, 1) := by decide +kernel
theorem dA_changeOne_26 : decode prog_2_method_8_code 26 = .ok (.iadd, 1) := by decide +kernel
theorem dA_changeOne_27 : decode prog_2_method_8_code 27 = .ok (.iastore, 1) := by decide +kernel
theorem dA_changeOne_28 : decode prog_2_method_8_code 28 = .ok (.return_, 1) := by decide +kernel
theorem dA_has_0 : decode prog_2_method_3_code 0 = .ok (.iload_n 1, 1) := by decide +kernel
theorem dA_has_1 : decode prog_2_method_3_code 1 = .ok (.ifCond .lt 16, 3) := by decide +kernel
theorem dA_has_4 : decode prog_2_method_3_code 4 = .ok (.iload_n 1, 1) := by decide +kernel
theorem dA_has_5 : decode prog_2_method_3_code 5 = .ok (.aload_n 0, 1) := by decide +kernel
theorem dA_has_6 : decode prog_2_method_3_code 6 = .ok (.getfield 7, 3) := by decide +kernel
theorem dA_has_9 : decode prog_2_method_3_code 9 = .ok (.arraylength, 1) := by decide +kernel
theorem dA_has_10 : decode prog_2_method_3_code 10 = .ok (.if_icmp .ge 7, 3) := by decide +kernel
theorem dA_has_13 : decode prog_2_method_3_code 13 = .ok (.iconst 1, 1) := by decide +kernel
theorem dA_has_14 : decode prog_2_method_3_code 14 = .ok (.goto 4, 3) := by decide +kernel
theorem dA_has_17 : decode prog_2_method_3_code 17 = .ok (.iconst 0, 1) := by decide +kernel
theorem dA_has_18 : decode prog_2_method_3_code 18 = .ok (.ireturn, 1) := by decide +kernel
theorem dR_isDown_0 : decode prog_1_method_10_code 0 = .ok (.aload_n 0, 1) := by decide +kernel
theorem dR_isDown_1 : decode prog_1_method_10_code 1 = .ok (.getfield 43, 3) := by decide +kernel
theorem dR_isDown_4 : decode prog_1_method_10_code 4 = .ok (.invokevirtual 100, 3) := by decide +kernel
theorem dR_isDown_7 : decode prog_1_method_10_code 7 = .ok (.ireturn, 1) := by decide +kernel
theorem dD_isOff_0 : decode prog_3_method_2_code 0 = .ok (.aload_n 0, 1) := by decide +kernel
theorem dD_isOff_1 : decode prog_3_method_2_code 1 = .ok (.getfield 15, 3) := by decide +kernel
theorem dD_isOff_4 : decode prog_3_method_2_code 4 = .ok (.ifCond .ne 7, 3) := by decide +kernel
theorem dD_isOff_7 : decode prog_3_method_2_code 7 = .ok (.iconst 1, 1) := by decide +kernel
theorem dD_isOff_8 : decode prog_3_method_2_code 8 = .ok (.goto 4, 3) := by decide +kernel
theorem dD_isOff_11 : decode prog_3_method_2_code 11 = .ok (.iconst 0, 1) := by decide +kernel
theorem dD_isOff_12 : decode prog_3_method_2_code 12 = .ok (.ireturn, 1) := by decide +kernel
theorem dR_add_0 : decode prog_1_method_2_code 0 = .ok (.aload_n 0, 1) := by decide +kernel
theorem dR_add_1 : decode prog_1_method_2_code 1 = .ok (.iload_n 1, 1) := by decide +kernel
theorem dR_add_2 : decode prog_1_method_2_code 2 = .ok (.invokevirtual 54, 3) := by decide +kernel
theorem dR_add_5 : decode prog_1_method_2_code 5 = .ok (.lload_n 2, 1) := by decide +kernel
theorem dR_add_6 : decode prog_1_method_2_code 6 = .ok (.ldc2_w 57, 3) := by decide +kernel
theorem dR_add_9 : decode prog_1_method_2_code 9 = .ok (.ldc2_w 59, 3) := by decide +kernel
theorem dR_add_12 : decode prog_1_method_2_code 12 = .ok (.invokestatic 61, 3) := by decide +kernel
theorem dR_add_15 : decode prog_1_method_2_code 15 = .ok (.aload_n 0, 1) := by decide +kernel
theorem dR_add_16 : decode prog_1_method_2_code 16 = .ok (.invokevirtual 65, 3) := by decide +kernel
theorem dR_add_19 : decode prog_1_method_2_code 19 = .ok (.aload_n 0, 1) := by decide +kernel
theorem dR_add_20 : decode prog_1_method_2_code 20 = .ok (.iconst (-1), 1) := by decide +kernel
theorem dR_add_21 : decode prog_1_method_2_code 21 = .ok (.iload_n 1, 1) := by decide +kernel
theorem dR_add_22 : decode prog_1_method_2_code 22 = .ok (.lload_n 2, 1) := by decide +kernel
theorem dR_add_23 : decode prog_1_method_2_code 23 = .ok (.invokevirtual 68, 3) := by decide +kernel
theorem dR_add_26 : decode prog_1_method_2_code 26 = .ok (.ireturn, 1) := by decide +kernel
theorem dR_requireAccount_0 : decode prog_1_method_18_code 0 = .ok (.aload_n 0, 1) := by decide +kernel
theorem dR_requireAccount_1 : decode prog_1_method_18_code 1 = .ok (.getfield 23, 3) := by decide +kernel
theorem dR_requireAccount_4 : decode prog_1_method_18_code 4 = .ok (.iload_n 1, 1) := by decide +kernel
theorem dR_requireAccount_5 : decode prog_1_method_18_code 5 = .ok (.invokevirtual 165, 3) := by decide +kernel
theorem dR_requireAccount_8 : decode prog_1_method_18_code 8 = .ok (.ifCond .ne 13, 3) := by decide +kernel
theorem dR_requireAccount_11 : decode prog_1_method_18_code 11 = .ok (.new 72, 3) := by decide +kernel
theorem dR_requireAccount_14 : decode prog_1_method_18_code 14 = .ok (.dup, 1) := by decide +kernel
theorem dR_requireAccount_15 : decode prog_1_method_18_code 15 = .ok (.ldc 168, 2) := by decide +kernel
theorem dR_requireAccount_17 : decode prog_1_method_18_code 17 = .ok (.invokespecial 76, 3) := by decide +kernel
theorem dR_requireAccount_20 : decode prog_1_method_18_code 20 = .ok (.athrow, 1) := by decide +kernel
theorem dR_requireAccount_21 : decode prog_1_method_18_code 21 = .ok (.return_, 1) := by decide +kernel
theorem dR_requireBounds_0 : decode prog_1_method_19_code 0 = .ok (.lload_n 0, 1) := by decide +kernel
theorem dR_requireBounds_1 : decode prog_1_method_19_code 1 = .ok (.lload_n 2, 1) := by decide +kernel
theorem dR_requireBounds_2 : decode prog_1_method_19_code 2 = .ok (.lcmp, 1) := by decide +kernel
theorem dR_requireBounds_3 : decode prog_1_method_19_code 3 = .ok (.ifCond .lt 10, 3) := by decide +kernel
theorem dR_requireBounds_6 : decode prog_1_method_19_code 6 = .ok (.lload_n 0, 1) := by decide +kernel
theorem dR_requireBounds_7 : decode prog_1_method_19_code 7 = .ok (.lload 4, 2) := by decide +kernel
theorem dR_requireBounds_9 : decode prog_1_method_19_code 9 = .ok (.lcmp, 1) := by decide +kernel
theorem dR_requireBounds_10 : decode prog_1_method_19_code 10 = .ok (.ifCond .le 13, 3) := by decide +kernel
theorem dR_requireBounds_13 : decode prog_1_method_19_code 13 = .ok (.new 72, 3) := by decide +kernel
theorem dR_requireBounds_16 : decode prog_1_method_19_code 16 = .ok (.dup, 1) := by decide +kernel
theorem dR_requireBounds_17 : decode prog_1_method_19_code 17 = .ok (.ldc 170, 2) := by decide +kernel
theorem dR_requireBounds_19 : decode prog_1_method_19_code 19 = .ok (.invokespecial 76, 3) := by decide +kernel
theorem dR_requireBounds_22 : decode prog_1_method_19_code 22 = .ok (.athrow, 1) := by decide +kernel
theorem dR_requireBounds_23 : decode prog_1_method_19_code 23 = .ok (.return_, 1) := by decide +kernel
theorem dR_requirePower_0 : decode prog_1_method_20_code 0 = .ok (.aload_n 0, 1) := by decide +kernel
theorem dR_requirePower_1 : decode prog_1_method_20_code 1 = .ok (.getfield 43, 3) := by decide +kernel
theorem dR_requirePower_4 : decode prog_1_method_20_code 4 = .ok (.invokevirtual 100, 3) := by decide +kernel
theorem dR_requirePower_7 : decode prog_1_method_20_code 7 = .ok (.ifCond .eq 13, 3) := by decide +kernel
theorem dR_requirePower_10 : decode prog_1_method_20_code 10 = .ok (.new 172, 3) := by decide +kernel
theorem dR_requirePower_13 : decode prog_1_method_20_code 13 = .ok (.dup, 1) := by decide +kernel
theorem dR_requirePower_14 : decode prog_1_method_20_code 14 = .ok (.ldc 174, 2) := by decide +kernel
theorem dR_requirePower_16 : decode prog_1_method_20_code 16 = .ok (.invokespecial 176, 3) := by decide +kernel
theorem dR_requirePower_19 : decode prog_1_method_20_code 19 = .ok (.athrow, 1) := by decide +kernel
theorem dR_requirePower_20 : decode prog_1_method_20_code 20 = .ok (.return_, 1) := by decide +kernel
theorem dR_change_0 : decode prog_1_method_14_code 0 = .ok (.aload_n 0, 1) := by decide +kernel
theorem dR_change_1 : decode prog_1_method_14_code 1 = .ok (.getfield 47, 3) := by decide +kernel
theorem dR_change_4 : decode prog_1_method_14_code 4 = .ok (.iconst (-1), 1) := by decide +kernel
theorem dR_change_5 : decode prog_1_method_14_code 5 = .ok (.if_icmp .ne 13, 3) := by decide +kernel
theorem dR_change_8 : decode prog_1_method_14_code 8 = .ok (.aload_n 0, 1) := by decide +kernel
theorem dR_change_9 : decode prog_1_method_14_code 9 = .ok (.iload_n 1, 1) := by decide +kernel
theorem dR_change_10 : decode prog_1_method_14_code 10 = .ok (.iload_n 2, 1) := by decide +kernel
theorem dR_change_11 : decode prog_1_method_14_code 11 = .ok (.lload_n 3, 1) := by decide +kernel
theorem dR_change_12 : decode prog_1_method_14_code 12 = .ok (.invokevirtual 144, 3) := by decide +kernel
theorem dR_change_15 : decode prog_1_method_14_code 15 = .ok (.goto 10, 3) := by decide +kernel
theorem dR_change_18 : decode prog_1_method_14_code 18 = .ok (.aload_n 0, 1) := by decide +kernel
theorem dR_change_19 : decode prog_1_method_14_code 19 = .ok (.iload_n 1, 1) := by decide +kernel
theorem dR_change_20 : decode prog_1_method_14_code 20 = .ok (.iload_n 2, 1) := by decide +kernel
theorem dR_change_21 : decode prog_1_method_14_code 21 = .ok (.lload_n 3, 1) := by decide +kernel
theorem dR_change_22 : decode prog_1_method_14_code 22 = .ok (.invokevirtual 147, 3) := by decide +kernel
theorem dR_change_25 : decode prog_1_method_14_code 25 = .ok (.ireturn, 1) := by decide +kernel
theorem dR_changeNow_0 : decode prog_1_method_15_code 0 = .ok (.aload_n 0, 1) := by decide +kernel
theorem dR_changeNow_1 : decode prog_1_method_15_code 1 = .ok (.getfield 23, 3) := by decide +kernel
theorem dR_changeNow_4 : decode prog_1_method_15_code 4 = .ok (.iload_n 1, 1) := by decide +kernel
theorem dR_changeNow_5 : decode prog_1_method_15_code 5 = .ok (.iload_n 2, 1) := by decide +kernel
theorem dR_changeNow_6 : decode prog_1_method_15_code 6 = .ok (.lload_n 3, 1) := by decide +kernel
theorem dR_changeNow_7 : decode prog_1_method_15_code 7 = .ok (.invokevirtual 150, 3) := by decide +kernel
theorem dR_changeNow_10 : decode prog_1_method_15_code 10 = .ok (.ifCond .eq 6, 3) := by decide +kernel
theorem dR_changeNow_13 : decode prog_1_method_15_code 13 = .ok (.bipush (-4), 2) := by decide +kernel
theorem dR_changeNow_15 : decode prog_1_method_15_code 15 = .ok (.ireturn, 1) := by decide +kernel
theorem dR_changeNow_16 : decode prog_1_method_15_code 16 = .ok (.aload_n 0, 1) := by decide +kernel
theorem dR_changeNow_17 : decode prog_1_method_15_code 17 = .ok (.getfield 36, 3) := by decide +kernel
theorem dR_changeNow_20 : decode prog_1_method_15_code 20 = .ok (.iload_n 1, 1) := by decide +kernel
theorem dR_changeNow_21 : decode prog_1_method_15_code 21 = .ok (.iload_n 2, 1) := by decide +kernel
theorem dR_changeNow_22 : decode prog_1_method_15_code 22 = .ok (.lload_n 3, 1) := by decide +kernel
theorem dR_changeNow_23 : decode prog_1_method_15_code 23 = .ok (.iconst 1, 1) := by decide +kernel
theorem dR_changeNow_24 : decode prog_1_method_15_code 24 = .ok (.invokevirtual 154, 3) := by decide +kernel
theorem dR_changeNow_27 : decode prog_1_method_15_code 27 = .ok (.ifCond .ne 6, 3) := by decide +kernel
theorem dR_changeNow_30 : decode prog_1_method_15_code 30 = .ok (.bipush (-2), 2) := by decide +kernel
theorem dR_changeNow_32 : decode prog_1_method_15_code 32 = .ok (.ireturn, 1) := by decide +kernel
theorem dR_changeNow_33 : decode prog_1_method_15_code 33 = .ok (.aload_n 0, 1) := by decide +kernel
theorem dR_changeNow_34 : decode prog_1_method_15_code 34 = .ok (.getfield 43, 3) := by decide +kernel
theorem dR_changeNow_37 : decode prog_1_method_15_code 37 = .ok (.invokevirtual 97, 3) := by decide +kernel
theorem dR_changeNow_40 : decode prog_1_method_15_code 40 = .ok (.aload_n 0, 1) := by decide +kernel
theorem dR_changeNow_41 : decode prog_1_method_15_code 41 = .ok (.getfield 23, 3) := by decide +kernel
theorem dR_changeNow_44 : decode prog_1_method_15_code 44 = .ok (.iload_n 1, 1) := by decide +kernel
theorem dR_changeNow_45 : decode prog_1_method_15_code 45 = .ok (.iload_n 2, 1) := by decide +kernel
theorem dR_changeNow_46 : decode prog_1_method_15_code 46 = .ok (.lload_n 3, 1) := by decide +kernel
theorem dR_changeNow_47 : decode prog_1_method_15_code 47 = .ok (.invokevirtual 158, 3) := by decide +kernel
theorem dR_changeNow_50 : decode prog_1_method_15_code 50 = .ok (.aload_n 0, 1) := by decide +kernel
theorem dR_changeNow_51 : decode prog_1_method_15_code 51 = .ok (.getfield 43, 3) := by decide +kernel
theorem dR_changeNow_54 : decode prog_1_method_15_code 54 = .ok (.invokevirtual 100, 3) := by decide +kernel
theorem dR_changeNow_57 : decode prog_1_method_15_code 57 = .ok (.ifCond .eq 8, 3) := by decide +kernel
theorem dR_changeNow_60 : decode prog_1_method_15_code 60 = .ok (.bipush (-3), 2) := by decide +kernel
theorem dR_changeNow_62 : decode prog_1_method_15_code 62 = .ok (.goto 4, 3) := by decide +kernel
theorem dR_changeNow_65 : decode prog_1_method_15_code 65 = .ok (.iconst 1, 1) := by decide +kernel
theorem dR_changeNow_66 : decode prog_1_method_15_code 66 = .ok (.ireturn, 1) := by decide +kernel
theorem dA_wouldOverdraw_0 : decode prog_2_method_6_code 0 = .ok (.aload_n 0, 1) := by decide +kernel
theorem dA_wouldOverdraw_1 : decode prog_2_method_6_code 1 = .ok (.iload_n 1, 1) := by decide +kernel
theorem dA_wouldOverdraw_2 : decode prog_2_method_6_code 2 = .ok (.invokevirtual 17, 3) := by decide +kernel
theorem dA_wouldOverdraw_5 : decode prog_2_method_6_code 5 = .ok (.ifCond .eq 16, 3) := by decide +kernel
theorem dA_wouldOverdraw_8 : decode prog_2_method_6_code 8 = .ok (.aload_n 0, 1) := by decide +kernel
theorem dA_wouldOverdraw_9 : decode prog_2_method_6_code 9 = .ok (.getfield 7, 3) := by decide +kernel
theorem dA_wouldOverdraw_12 : decode prog_2_method_6_code 12 = .ok (.iload_n 1, 1) := by decide +kernel
theorem dA_wouldOverdraw_13 : decode prog_2_method_6_code 13 = .ok (.laload, 1) := by decide +kernel
theorem dA_wouldOverdraw_14 : decode prog_2_method_6_code 14 = .ok (.lload_n 3, 1) := by decide +kernel
theorem dA_wouldOverdraw_15 : decode prog_2_method_6_code 15 = .ok (.lsub, 1) := by decide +kernel
theorem dA_wouldOverdraw_16 : decode prog_2_method_6_code 16 = .ok (.lconst 0, 1) := by decide +kernel
theorem dA_wouldOverdraw_17 : decode prog_2_method_6_code 17 = .ok (.lcmp, 1) := by decide +kernel
theorem dA_wouldOverdraw_18 : decode prog_2_method_6_code 18 = .ok (.ifCond .lt 24, 3) := by decide +kernel
theorem dA_wouldOverdraw_21 : decode prog_2_method_6_code 21 = .ok (.aload_n 0, 1) := by decide +kernel
theorem dA_wouldOverdraw_22 : decode prog_2_method_6_code 22 = .ok (.iload_n 2, 1) := by decide +kernel
theorem dA_wouldOverdraw_23 : decode prog_2_method_6_code 23 = .ok (.invokevirtual 17, 3) := by decide +kernel
theorem dA_wouldOverdraw_26 : decode prog_2_method_6_code 26 = .ok (.ifCond .eq 20, 3) := by decide +kernel
theorem dA_wouldOverdraw_29 : decode prog_2_method_6_code 29 = .ok (.aload_n 0, 1) := by decide +kernel
theorem dA_wouldOverdraw_30 : decode prog_2_method_6_code 30 = .ok (.getfield 7, 3) := by decide +kernel
theorem dA_wouldOverdraw_33 : decode prog_2_method_6_code 33 = .ok (.iload_n 2, 1) := by decide +kernel
theorem dA_wouldOverdraw_34 : decode prog_2_method_6_code 34 = .ok (.laload, 1) := by decide +kernel
theorem dA_wouldOverdraw_35 : decode prog_2_method_6_code 35 = .ok (.lload_n 3, 1) := by decide +kernel
theorem dA_wouldOverdraw_36 : decode prog_2_method_6_code 36 = .ok (.ladd, 1) := by decide +kernel
theorem dA_wouldOverdraw_37 : decode prog_2_method_6_code 37 = .ok (.lconst 0, 1) := by decide +kernel
theorem dA_wouldOverdraw_38 : decode prog_2_method_6_code 38 = .ok (.lcmp, 1) := by decide +kernel
theorem dA_wouldOverdraw_39 : decode prog_2_method_6_code 39 = .ok (.ifCond .ge 7, 3) := by decide +kernel
theorem dA_wouldOverdraw_42 : decode prog_2_method_6_code 42 = .ok (.iconst 1, 1) := by decide +kernel
theorem dA_wouldOverdraw_43 : decode prog_2_method_6_code 43 = .ok (.goto 4, 3) := by decide +kernel
theorem dA_wouldOverdraw_46 : decode prog_2_method_6_code 46 = .ok (.iconst 0, 1) := by decide +kernel
theorem dA_wouldOverdraw_47 : decode prog_2_method_6_code 47 = .ok (.ireturn, 1) := by decide +kernel
theorem dJ_writeChange_0 : decode prog_4_method_4_code 0 = .ok (.aload_n 0, 1) := by decide +kernel
theorem dJ_writeChange_1 : decode prog_4_method_4_code 1 = .ok (.getfield 24, 3) := by decide +kernel
theorem dJ_writeChange_4 : decode prog_4_method_4_code 4 = .ok (.aload_n 0, 1) := by decide +kernel
theorem dJ_writeChange_5 : decode prog_4_method_4_code 5 = .ok (.getfield 20, 3) := by decide +kernel
theorem dJ_writeChange_8 : decode prog_4_method_4_code 8 = .ok (.arraylength, 1) := by decide +kernel
theorem dJ_writeChange_9 : decode prog_4_method_4_code 9 = .ok (.if_icmp .lt 5, 3) := by decide +kernel
theorem dJ_writeChange_12 : decode prog_4_method_4_code 12 = .ok (.iconst 0, 1) := by decide +kernel
theorem dJ_writeChange_13 : decode prog_4_method_4_code 13 = .ok (.ireturn, 1) := by decide +kernel
theorem dJ_writeChange_14 : decode prog_4_method_4_code 14 = .ok (.aload_n 0, 1) := by decide +kernel
theorem dJ_writeChange_15 : decode prog_4_method_4_code 15 = .ok (.getfield 7, 3) := by decide +kernel
theorem dJ_writeChange_18 : decode prog_4_method_4_code 18 = .ok (.aload_n 0, 1) := by decide +kernel
theorem dJ_writeChange_19 : decode prog_4_method_4_code 19 = .ok (.getfield 24, 3) := by decide +kernel
theorem dJ_writeChange_22 : decode prog_4_method_4_code 22 = .ok (.iload_n 1, 1) := by decide +kernel
theorem dJ_writeChange_23 : decode prog_4_method_4_code 23 = .ok (.iastore, 1) := by decide +kernel
theorem dJ_writeChange_24 : decode prog_4_method_4_code 24 = .ok (.aload_n 0, 1) := by decide +kernel
theorem dJ_writeChange_25 : decode prog_4_method_4_code 25 = .ok (.getfield 13, 3) := by decide +kernel
theorem dJ_writeChange_28 : decode prog_4_method_4_code 28 = .ok (.aload_n 0, 1) := by decide +kernel
theorem dJ_writeChange_29 : decode prog_4_method_4_code 29 = .ok (.getfield 24, 3) := by decide +kernel
theorem dJ_writeChange_32 : decode prog_4_method_4_code 32 = .ok (.iload_n 2, 1) := by decide +kernel
theorem dJ_writeChange_33 : decode prog_4_method_4_code 33 = .ok (.iastore, 1) := by decide +kernel
theorem dJ_writeChange_34 : decode prog_4_method_4_code 34 = .ok (.aload_n 0, 1) := by decide +kernel
theorem dJ_writeChange_35 : decode prog_4_method_4_code 35 = .ok (.getfield 16, 3) := by decide +kernel
theorem dJ_writeChange_38 : decode prog_4_method_4_code 38 = .ok (.aload_n 0, 1) := by decide +kernel
theorem dJ_writeChange_39 : decode prog_4_method_4_code 39 = .ok (.getfield 24, 3) := by decide +kernel
theorem dJ_writeChange_42 : decode prog_4_method_4_code 42 = .ok (.lload_n 3, 1) := by decide +kernel
theorem dJ_writeChange_43 : decode prog_4_method_4_code 43 = .ok (.lastore, 1) := by decide +kernel
theorem dJ_writeChange_44 : decode prog_4_method_4_code 44 = .ok (.aload_n 0, 1) := by decide +kernel
theorem dJ_writeChange_45 : decode prog_4_method_4_code 45 = .ok (.getfield 20, 3) := by decide +kernel
theorem dJ_writeChange_48 : decode prog_4_method_4_code 48 = .ok (.aload_n 0, 1) := by decide +kernel
theorem dJ_writeChange_49 : decode prog_4_method_4_code 49 = .ok (.getfield 24, 3) := by decide +kernel
theorem dJ_writeChange_52 : decode prog_4_method_4_code 52 = .ok (.iload 5, 2) := by decide +kernel
theorem dJ_writeChange_54 : decode prog_4_method_4_code 54 = .ok (.bastore, 1) := by decide +kernel
theorem dJ_writeChange_55 : decode prog_4_method_4_code 55 = .ok (.aload_n 0, 1) := by decide +kernel
theorem dJ_writeChange_56 : decode prog_4_method_4_code 56 = .ok (.dup, 1) := by decide +kernel
theorem dJ_writeChange_57 : decode prog_4_method_4_code 57 = .ok (.getfield 24, 3) := by decide +kernel
theorem dJ_writeChange_60 : decode prog_4_method_4_code 60 = .ok (.iconst 1, 1) := by decide +kernel
theorem dJ_writeChange_61 : decode prog_4_method_4_code 61 = .ok (.iadd, 1) := by decide +kernel
theorem dJ_writeChange_62 : decode prog_4_method_4_code 62 = .ok (.putfield 24, 3) := by decide +kernel
theorem dJ_writeChange_65 : decode prog_4_method_4_code 65 = .ok (.iconst 1, 1) := by decide +kernel
theorem dJ_writeChange_66 : decode prog_4_method_4_code 66 = .ok (.ireturn, 1) := by decide +kernel
theorem dD_writeBlock_0 : decode prog_3_method_6_code 0 = .ok (.aload_n 0, 1) := by decide +kernel
theorem dD_writeBlock_1 : decode prog_3_method_6_code 1 = .ok (.dup, 1) := by decide +kernel
theorem dD_writeBlock_2 : decode prog_3_method_6_code 2 = .ok (.getfield 9, 3) := by decide +kernel
theorem dD_writeBlock_5 : decode prog_3_method_6_code 5 = .ok (.iconst 1, 1) := by decide +kernel
theorem dD_writeBlock_6 : decode prog_3_method_6_code 6 = .ok (.iadd, 1) := by decide +kernel
theorem dD_writeBlock_7 : decode prog_3_method_6_code 7 = .ok (.putfield 9, 3) := by decide +kernel
theorem dD_writeBlock_10 : decode prog_3_method_6_code 10 = .ok (.aload_n 0, 1) := by decide +kernel
theorem dD_writeBlock_11 : decode prog_3_method_6_code 11 = .ok (.getfield 15, 3) := by decide +kernel
theorem dD_writeBlock_14 : decode prog_3_method_6_code 14 = .ok (.ifCond .le 13, 3) := by decide +kernel
theorem dD_writeBlock_17 : decode prog_3_method_6_code 17 = .ok (.aload_n 0, 1) := by decide +kernel
theorem dD_writeBlock_18 : decode prog_3_method_6_code 18 = .ok (.dup, 1) := by decide +kernel
theorem dD_writeBlock_19 : decode prog_3_method_6_code 19 = .ok (.getfield 15, 3) := by decide +kernel
theorem dD_writeBlock_22 : decode prog_3_method_6_code 22 = .ok (.iconst 1, 1) := by decide +kernel
theorem dD_writeBlock_23 : decode prog_3_method_6_code 23 = .ok (.isub, 1) := by decide +kernel
theorem dD_writeBlock_24 : decode prog_3_method_6_code 24 = .ok (.putfield 15, 3) := by decide +kernel
theorem dD_writeBlock_27 : decode prog_3_method_6_code 27 = .ok (.return_, 1) := by decide +kernel
theorem dR_changeInGroup_0 : decode prog_1_method_16_code 0 = .ok (.aload_n 0, 1) := by decide +kernel
theorem dR_changeInGroup_1 : decode prog_1_method_16_code 1 = .ok (.getfield 36, 3) := by decide +kernel
theorem dR_changeInGroup_4 : decode prog_1_method_16_code 4 = .ok (.iload_n 1, 1) := by decide +kernel
theorem dR_changeInGroup_5 : decode prog_1_method_16_code 5 = .ok (.iload_n 2, 1) := by decide +kernel
theorem dR_changeInGroup_6 : decode prog_1_method_16_code 6 = .ok (.lload_n 3, 1) := by decide +kernel
theorem dR_changeInGroup_7 : decode prog_1_method_16_code 7 = .ok (.iconst 0, 1) := by decide +kernel
theorem dR_changeInGroup_8 : decode prog_1_method_16_code 8 = .ok (.invokevirtual 154, 3) := by decide +kernel
theorem dR_changeInGroup_11 : decode prog_1_method_16_code 11 = .ok (.ifCond .ne 6, 3) := by decide +kernel
theorem dR_changeInGroup_14 : decode prog_1_method_16_code 14 = .ok (.bipush (-2), 2) := by decide +kernel
theorem dR_changeInGroup_16 : decode prog_1_method_16_code 16 = .ok (.ireturn, 1) := by decide +kernel
theorem dR_changeInGroup_17 : decode prog_1_method_16_code 17 = .ok (.aload_n 0, 1) := by decide +kernel
theorem dR_changeInGroup_18 : decode prog_1_method_16_code 18 = .ok (.getfield 43, 3) := by decide +kernel
theorem dR_changeInGroup_21 : decode prog_1_method_16_code 21 = .ok (.invokevirtual 97, 3) := by decide +kernel
theorem dR_changeInGroup_24 : decode prog_1_method_16_code 24 = .ok (.aload_n 0, 1) := by decide +kernel
theorem dR_changeInGroup_25 : decode prog_1_method_16_code 25 = .ok (.dup, 1) := by decide +kernel
theorem dR_changeInGroup_26 : decode prog_1_method_16_code 26 = .ok (.getfield 47, 3) := by decide +kernel
theorem dR_changeInGroup_29 : decode prog_1_method_16_code 29 = .ok (.iconst 1, 1) := by decide +kernel
theorem dR_changeInGroup_30 : decode prog_1_method_16_code 30 = .ok (.iadd, 1) := by decide +kernel
theorem dR_changeInGroup_31 : decode prog_1_method_16_code 31 = .ok (.putfield 47, 3) := by decide +kernel
theorem dR_changeInGroup_34 : decode prog_1_method_16_code 34 = .ok (.aload_n 0, 1) := by decide +kernel
theorem dR_changeInGroup_35 : decode prog_1_method_16_code 35 = .ok (.getfield 43, 3) := by decide +kernel
theorem dR_changeInGroup_38 : decode prog_1_method_16_code 38 = .ok (.invokevirtual 100, 3) := by decide +kernel
theorem dR_changeInGroup_41 : decode prog_1_method_16_code 41 = .ok (.ifCond .eq 8, 3) := by decide +kernel
theorem dR_changeInGroup_44 : decode prog_1_method_16_code 44 = .ok (.bipush (-3), 2) := by decide +kernel
theorem dR_changeInGroup_46 : decode prog_1_method_16_code 46 = .ok (.goto 4, 3) := by decide +kernel
theorem dR_changeInGroup_49 : decode prog_1_method_16_code 49 = .ok (.iconst 0, 1) := by decide +kernel
theorem dR_changeInGroup_50 : decode prog_1_method_16_code 50 = .ok (.ireturn, 1) := by decide +kernel
theorem dR_move_0 : decode prog_1_method_3_code 0 = .ok (.aload_n 0, 1) := by decide +kernel
theorem dR_move_1 : decode prog_1_method_3_code 1 = .ok (.iload_n 1, 1) := by decide +kernel
theorem dR_move_2 : decode prog_1_method_3_code 2 = .ok (.invokevirtual 54, 3) := by decide +kernel
theorem dR_move_5 : decode prog_1_method_3_code 5 = .ok (.aload_n 0, 1) := by decide +kernel
theorem dR_move_6 : decode prog_1_method_3_code 6 = .ok (.iload_n 2, 1) := by decide +kernel
theorem dR_move_7 : decode prog_1_method_3_code 7 = .ok (.invokevirtual 54, 3) := by decide +kernel
theorem dR_move_10 : decode prog_1_method_3_code 10 = .ok (.lload_n 3, 1) := by decide +kernel
theorem dR_move_11 : decode prog_1_method_3_code 11 = .ok (.lconst 0, 1) := by decide +kernel
theorem dR_move_12 : decode prog_1_method_3_code 12 = .ok (.ldc2_w 59, 3) := by decide +kernel
theorem dR_move_15 : decode prog_1_method_3_code 15 = .ok (.invokestatic 61, 3) := by decide +kernel
theorem dR_move_18 : decode prog_1_method_3_code 18 = .ok (.iload_n 1, 1) := by decide +kernel
theorem dR_move_19 : decode prog_1_method_3_code 19 = .ok (.iload_n 2, 1) := by decide +kernel
theorem dR_move_20 : decode prog_1_method_3_code 20 = .ok (.if_icmp .ne 13, 3) := by decide +kernel
theorem dR_move_23 : decode prog_1_method_3_code 23 = .ok (.new 72, 3) := by decide +kernel
theorem dR_move_26 : decode prog_1_method_3_code 26 = .ok (.dup, 1) := by decide +kernel
theorem dR_move_27 : decode prog_1_method_3_code 27 = .ok (.ldc 74, 2) := by decide +kernel
theorem dR_move_29 : decode prog_1_method_3_code 29 = .ok (.invokespecial 76, 3) := by decide +kernel
theorem dR_move_32 : decode prog_1_method_3_code 32 = .ok (.athrow, 1) := by decide +kernel
theorem dR_move_33 : decode prog_1_method_3_code 33 = .ok (.aload_n 0, 1) := by decide +kernel
theorem dR_move_34 : decode prog_1_method_3_code 34 = .ok (.invokevirtual 65, 3) := by decide +kernel
theorem dR_move_37 : decode prog_1_method_3_code 37 = .ok (.aload_n 0, 1) := by decide +kernel
theorem dR_move_38 : decode prog_1_method_3_code 38 = .ok (.iload_n 1, 1) := by decide +kernel
theorem dR_move_39 : decode prog_1_method_3_code 39 = .ok (.iload_n 2, 1) := by decide +kernel
theorem dR_move_40 : decode prog_1_method_3_code 40 = .ok (.lload_n 3, 1) := by decide +kernel
theorem dR_move_41 : decode prog_1_method_3_code 41 = .ok (.invokevirtual 68, 3) := by decide +kernel
theorem dR_move_44 : decode prog_1_method_3_code 44 = .ok (.ireturn, 1) := by decide +kernel
theorem dR_begin_0 : decode prog_1_method_4_code 0 = .ok (.aload_n 0, 1) := by decide +kernel
theorem dR_begin_1 : decode prog_1_method_4_code 1 = .ok (.invokevirtual 65, 3) := by decide +kernel
theorem dR_begin_4 : decode prog_1_method_4_code 4 = .ok (.aload_n 0, 1) := by decide +kernel
theorem dR_begin_5 : decode prog_1_method_4_code 5 = .ok (.invokevirtual 79, 3) := by decide +kernel
theorem dR_begin_8 : decode prog_1_method_4_code 8 = .ok (.aload_n 0, 1) := by decide +kernel
theorem dR_begin_9 : decode prog_1_method_4_code 9 = .ok (.iconst 0, 1) := by decide +kernel
theorem dR_begin_10 : decode prog_1_method_4_code 10 = .ok (.putfield 47, 3) := by decide +kernel
theorem dR_begin_13 : decode prog_1_method_4_code 13 = .ok (.return_, 1) := by decide +kernel
theorem dR_requireNoGroup_0 : decode prog_1_method_22_code 0 = .ok (.aload_n 0, 1) := by decide +kernel
theorem dR_requireNoGroup_1 : decode prog_1_method_22_code 1 = .ok (.getfield 47, 3) := by decide +kernel
theorem dR_requireNoGroup_4 : decode prog_1_method_22_code 4 = .ok (.iconst (-1), 1) := by decide +kernel
theorem dR_requireNoGroup_5 : decode prog_1_method_22_code 5 = .ok (.if_icmp .eq 13, 3) := by decide +kernel
theorem dR_requireNoGroup_8 : decode prog_1_method_22_code 8 = .ok (.new 172, 3) := by decide +kernel
theorem dR_requireNoGroup_11 : decode prog_1_method_22_code 11 = .ok (.dup, 1) := by decide +kernel
theorem dR_requireNoGroup_12 : decode prog_1_method_22_code 12 = .ok (.ldc 179, 2) := by decide +kernel
theorem dR_requireNoGroup_14 : decode prog_1_method_22_code 14 = .ok (.invokespecial 176, 3) := by decide +kernel
theorem dR_requireNoGroup_17 : decode prog_1_method_22_code 17 = .ok (.athrow, 1) := by decide +kernel
theorem dR_requireNoGroup_18 : decode prog_1_method_22_code 18 = .ok (.return_, 1) := by decide +kernel
theorem dR_end_0 : decode prog_1_method_5_code 0 = .ok (.aload_n 0, 1) := by decide +kernel
theorem dR_end_1 : decode prog_1_method_5_code 1 = .ok (.invokevirtual 65, 3) := by decide +kernel
theorem dR_end_4 : decode prog_1_method_5_code 4 = .ok (.aload_n 0, 1) := by decide +kernel
theorem dR_end_5 : decode prog_1_method_5_code 5 = .ok (.invokevirtual 82, 3) := by decide +kernel
theorem dR_end_8 : decode prog_1_method_5_code 8 = .ok (.aload_n 0, 1) := by decide +kernel
theorem dR_end_9 : decode prog_1_method_5_code 9 = .ok (.getfield 30, 3) := by decide +kernel
theorem dR_end_12 : decode prog_1_method_5_code 12 = .ok (.aload_n 0, 1) := by decide +kernel
theorem dR_end_13 : decode prog_1_method_5_code 13 = .ok (.getfield 23, 3) := by decide +kernel
theorem dR_end_16 : decode prog_1_method_5_code 16 = .ok (.invokevirtual 85, 3) := by decide +kernel
theorem dR_end_19 : decode prog_1_method_5_code 19 = .ok (.aload_n 0, 1) := by decide +kernel
theorem dR_end_20 : decode prog_1_method_5_code 20 = .ok (.getfield 36, 3) := by decide +kernel
theorem dR_end_23 : decode prog_1_method_5_code 23 = .ok (.aload_n 0, 1) := by decide +kernel
theorem dR_end_24 : decode prog_1_method_5_code 24 = .ok (.getfield 47, 3) := by decide +kernel
theorem dR_end_27 : decode prog_1_method_5_code 27 = .ok (.aload_n 0, 1) := by decide +kernel
theorem dR_end_28 : decode prog_1_method_5_code 28 = .ok (.getfield 30, 3) := by decide +kernel
theorem dR_end_31 : decode prog_1_method_5_code 31 = .ok (.invokevirtual 89, 3) := by decide +kernel
theorem dR_end_34 : decode prog_1_method_5_code 34 = .ok (.ifCond .ne 11, 3) := by decide +kernel
theorem dR_end_37 : decode prog_1_method_5_code 37 = .ok (.aload_n 0, 1) := by decide +kernel
theorem dR_end_38 : decode prog_1_method_5_code 38 = .ok (.iconst (-1), 1) := by decide +kernel
theorem dR_end_39 : decode prog_1_method_5_code 39 = .ok (.putfield 47, 3) := by decide +kernel
theorem dR_end_42 : decode prog_1_method_5_code 42 = .ok (.bipush (-4), 2) := by decide +kernel
theorem dR_end_44 : decode prog_1_method_5_code 44 = .ok (.ireturn, 1) := by decide +kernel
theorem dR_end_45 : decode prog_1_method_5_code 45 = .ok (.aload_n 0, 1) := by decide +kernel
theorem dR_end_46 : decode prog_1_method_5_code 46 = .ok (.getfield 36, 3) := by decide +kernel
theorem dR_end_49 : decode prog_1_method_5_code 49 = .ok (.aload_n 0, 1) := by decide +kernel
theorem dR_end_50 : decode prog_1_method_5_code 50 = .ok (.getfield 47, 3) := by decide +kernel
theorem dR_end_53 : decode prog_1_method_5_code 53 = .ok (.invokevirtual 93, 3) := by decide +kernel
theorem dR_end_56 : decode prog_1_method_5_code 56 = .ok (.ifCond .ne 6, 3) := by decide +kernel
theorem dR_end_59 : decode prog_1_method_5_code 59 = .ok (.bipush (-2), 2) := by decide +kernel
theorem dR_end_61 : decode prog_1_method_5_code 61 = .ok (.ireturn, 1) := by decide +kernel
theorem dR_end_62 : decode prog_1_method_5_code 62 = .ok (.aload_n 0, 1) := by decide +kernel
theorem dR_end_63 : decode prog_1_method_5_code 63 = .ok (.getfield 43, 3) := by decide +kernel
theorem dR_end_66 : decode prog_1_method_5_code 66 = .ok (.invokevirtual 97, 3) := by decide +kernel
theorem dR_end_69 : decode prog_1_method_5_code 69 = .ok (.aload_n 0, 1) := by decide +kernel
theorem dR_end_70 : decode prog_1_method_5_code 70 = .ok (.getfield 23, 3) := by decide +kernel
theorem dR_end_73 : decode prog_1_method_5_code 73 = .ok (.aload_n 0, 1) := by decide +kernel
theorem dR_end_74 : decode prog_1_method_5_code 74 = .ok (.getfield 30, 3) := by decide +kernel
theorem dR_end_77 : decode prog_1_method_5_code 77 = .ok (.invokevirtual 85, 3) := by decide +kernel
theorem dR_end_80 : decode prog_1_method_5_code 80 = .ok (.aload_n 0, 1) := by decide +kernel
theorem dR_end_81 : decode prog_1_method_5_code 81 = .ok (.getfield 47, 3) := by decide +kernel
theorem dR_end_84 : decode prog_1_method_5_code 84 = .ok (.istore_n 1, 1) := by decide +kernel
theorem dR_end_85 : decode prog_1_method_5_code 85 = .ok (.aload_n 0, 1) := by decide +kernel
theorem dR_end_86 : decode prog_1_method_5_code 86 = .ok (.iconst (-1), 1) := by decide +kernel
theorem dR_end_87 : decode prog_1_method_5_code 87 = .ok (.putfield 47, 3) := by decide +kernel
theorem dR_end_90 : decode prog_1_method_5_code 90 = .ok (.aload_n 0, 1) := by decide +kernel
theorem dR_end_91 : decode prog_1_method_5_code 91 = .ok (.getfield 43, 3) := by decide +kernel
theorem dR_end_94 : decode prog_1_method_5_code 94 = .ok (.invokevirtual 100, 3) := by decide +kernel
theorem dR_end_97 : decode prog_1_method_5_code 97 = .ok (.ifCond .eq 8, 3) := by decide +kernel
theorem dR_end_100 : decode prog_1_method_5_code 100 = .ok (.bipush (-3), 2) := by decide +kernel
theorem dR_end_102 : decode prog_1_method_5_code 102 = .ok (.goto 4, 3) := by decide +kernel
theorem dR_end_105 : decode prog_1_method_5_code 105 = .ok (.iload_n 1, 1) := by decide +kernel
theorem dR_end_106 : decode prog_1_method_5_code 106 = .ok (.ireturn, 1) := by decide +kernel
theorem dR_requireGroup_0 : decode prog_1_method_21_code 0 = .ok (.aload_n 0, 1) := by decide +kernel
theorem dR_requireGroup_1 : decode prog_1_method_21_code 1 = .ok (.getfield 47, 3) := by decide +kernel
theorem dR_requireGroup_4 : decode prog_1_method_21_code 4 = .ok (.iconst (-1), 1) := by decide +kernel
theorem dR_requireGroup_5 : decode prog_1_method_21_code 5 = .ok (.if_icmp .ne 13, 3) := by decide +kernel
theorem dR_requireGroup_8 : decode prog_1_method_21_code 8 = .ok (.new 172, 3) := by decide +kernel
theorem dR_requireGroup_11 : decode prog_1_method_21_code 11 = .ok (.dup, 1) := by decide +kernel
theorem dR_requireGroup_12 : decode prog_1_method_21_code 12 = .ok (.ldc 177, 2) := by decide +kernel
theorem dR_requireGroup_14 : decode prog_1_method_21_code 14 = .ok (.invokespecial 176, 3) := by decide +kernel
theorem dR_requireGroup_17 : decode prog_1_method_21_code 17 = .ok (.athrow, 1) := by decide +kernel
theorem dR_requireGroup_18 : decode prog_1_method_21_code 18 = .ok (.return_, 1) := by decide +kernel
theorem dJ_tryLast_0 : decode prog_4_method_6_code 0 = .ok (.aload_n 0, 1) := by decide +kernel
theorem dJ_tryLast_1 : decode prog_4_method_6_code 1 = .ok (.iload_n 1, 1) := by decide +kernel
theorem dJ_tryLast_2 : decode prog_4_method_6_code 2 = .ok (.invokevirtual 28, 3) := by decide +kernel
theorem dJ_tryLast_5 : decode prog_4_method_6_code 5 = .ok (.istore_n 3, 1) := by decide +kernel
theorem dJ_tryLast_6 : decode prog_4_method_6_code 6 = .ok (.iload_n 3, 1) := by decide +kernel
theorem dJ_tryLast_7 : decode prog_4_method_6_code 7 = .ok (.aload_n 0, 1) := by decide +kernel
theorem dJ_tryLast_8 : decode prog_4_method_6_code 8 = .ok (.getfield 24, 3) := by decide +kernel
theorem dJ_tryLast_11 : decode prog_4_method_6_code 11 = .ok (.if_icmp .ge 58, 3) := by decide +kernel
theorem dJ_tryLast_14 : decode prog_4_method_6_code 14 = .ok (.aload_n 2, 1) := by decide +kernel
theorem dJ_tryLast_15 : decode prog_4_method_6_code 15 = .ok (.aload_n 0, 1) := by decide +kernel
theorem dJ_tryLast_16 : decode prog_4_method_6_code 16 = .ok (.getfield 7, 3) := by decide +kernel
theorem dJ_tryLast_19 : decode prog_4_method_6_code 19 = .ok (.iload_n 3, 1) := by decide +kernel
theorem dJ_tryLast_20 : decode prog_4_method_6_code 20 = .ok (.iaload, 1) := by decide +kernel
theorem dJ_tryLast_21 : decode prog_4_method_6_code 21 = .ok (.aload_n 0, 1) := by decide +kernel
theorem dJ_tryLast_22 : decode prog_4_method_6_code 22 = .ok (.getfield 13, 3) := by decide +kernel
theorem dJ_tryLast_25 : decode prog_4_method_6_code 25 = .ok (.iload_n 3, 1) := by decide +kernel
theorem dJ_tryLast_26 : decode prog_4_method_6_code 26 = .ok (.iaload, 1) := by decide +kernel
theorem dJ_tryLast_27 : decode prog_4_method_6_code 27 = .ok (.aload_n 0, 1) := by decide +kernel
theorem dJ_tryLast_28 : decode prog_4_method_6_code 28 = .ok (.getfield 16, 3) := by decide +kernel
theorem dJ_tryLast_31 : decode prog_4_method_6_code 31 = .ok (.iload_n 3, 1) := by decide +kernel
theorem dJ_tryLast_32 : decode prog_4_method_6_code 32 = .ok (.laload, 1) := by decide +kernel
theorem dJ_tryLast_33 : decode prog_4_method_6_code 33 = .ok (.invokevirtual 32, 3) := by decide +kernel
theorem dJ_tryLast_36 : decode prog_4_method_6_code 36 = .ok (.ifCond .eq 5, 3) := by decide +kernel
theorem dJ_tryLast_39 : decode prog_4_method_6_code 39 = .ok (.iconst 0, 1) := by decide +kernel
theorem dJ_tryLast_40 : decode prog_4_method_6_code 40 = .ok (.ireturn, 1) := by decide +kernel
theorem dJ_tryLast_41 : decode prog_4_method_6_code 41 = .ok (.aload_n 2, 1) := by decide +kernel
theorem dJ_tryLast_42 : decode prog_4_method_6_code 42 = .ok (.aload_n 0, 1) := by decide +kernel
theorem dJ_tryLast_43 : decode prog_4_method_6_code 43 = .ok (.getfield 7, 3) := by decide +kernel
theorem dJ_tryLast_46 : decode prog_4_method_6_code 46 = .ok (.iload_n 3, 1) := by decide +kernel
theorem dJ_tryLast_47 : decode prog_4_method_6_code 47 = .ok (.iaload, 1) := by decide +kernel
theorem dJ_tryLast_48 : decode prog_4_method_6_code 48 = .ok (.aload_n 0, 1) := by decide +kernel
theorem dJ_tryLast_49 : decode prog_4_method_6_code 49 = .ok (.getfield 13, 3) := by decide +kernel
theorem dJ_tryLast_52 : decode prog_4_method_6_code 52 = .ok (.iload_n 3, 1) := by decide +kernel
theorem dJ_tryLast_53 : decode prog_4_method_6_code 53 = .ok (.iaload, 1) := by decide +kernel
theorem dJ_tryLast_54 : decode prog_4_method_6_code 54 = .ok (.aload_n 0, 1) := by decide +kernel
theorem dJ_tryLast_55 : decode prog_4_method_6_code 55 = .ok (.getfield 16, 3) := by decide +kernel
theorem dJ_tryLast_58 : decode prog_4_method_6_code 58 = .ok (.iload_n 3, 1) := by decide +kernel
theorem dJ_tryLast_59 : decode prog_4_method_6_code 59 = .ok (.laload, 1) := by decide +kernel
theorem dJ_tryLast_60 : decode prog_4_method_6_code 60 = .ok (.invokevirtual 38, 3) := by decide +kernel
theorem dJ_tryLast_63 : decode prog_4_method_6_code 63 = .ok (.iinc 3 1, 3) := by decide +kernel
theorem dJ_tryLast_66 : decode prog_4_method_6_code 66 = .ok (.goto (-60), 3) := by decide +kernel
theorem dJ_tryLast_69 : decode prog_4_method_6_code 69 = .ok (.iconst 1, 1) := by decide +kernel
theorem dJ_tryLast_70 : decode prog_4_method_6_code 70 = .ok (.ireturn, 1) := by decide +kernel
theorem dJ_firstOfLast_0 : decode prog_4_method_8_code 0 = .ok (.iconst 0, 1) := by decide +kernel
theorem dJ_firstOfLast_1 : decode prog_4_method_8_code 1 = .ok (.aload_n 0, 1) := by decide +kernel
theorem dJ_firstOfLast_2 : decode prog_4_method_8_code 2 = .ok (.getfield 24, 3) := by decide +kernel
theorem dJ_firstOfLast_5 : decode prog_4_method_8_code 5 = .ok (.iload_n 1, 1) := by decide +kernel
theorem dJ_firstOfLast_6 : decode prog_4_method_8_code 6 = .ok (.isub, 1) := by decide +kernel
theorem dJ_firstOfLast_7 : decode prog_4_method_8_code 7 = .ok (.invokestatic 42, 3) := by decide +kernel
theorem dJ_firstOfLast_10 : decode prog_4_method_8_code 10 = .ok (.ireturn, 1) := by decide +kernel
theorem dJ_writeEnd_0 : decode prog_4_method_5_code 0 = .ok (.aload_n 0, 1) := by decide +kernel
theorem dJ_writeEnd_1 : decode prog_4_method_5_code 1 = .ok (.getfield 24, 3) := by decide +kernel
theorem dJ_writeEnd_4 : decode prog_4_method_5_code 4 = .ok (.aload_n 0, 1) := by decide +kernel
theorem dJ_writeEnd_5 : decode prog_4_method_5_code 5 = .ok (.getfield 20, 3) := by decide +kernel
theorem dJ_writeEnd_8 : decode prog_4_method_5_code 8 = .ok (.arraylength, 1) := by decide +kernel
theorem dJ_writeEnd_9 : decode prog_4_method_5_code 9 = .ok (.if_icmp .lt 5, 3) := by decide +kernel
theorem dJ_writeEnd_12 : decode prog_4_method_5_code 12 = .ok (.iconst 0, 1) := by decide +kernel
theorem dJ_writeEnd_13 : decode prog_4_method_5_code 13 = .ok (.ireturn, 1) := by decide +kernel
theorem dJ_writeEnd_14 : decode prog_4_method_5_code 14 = .ok (.aload_n 0, 1) := by decide +kernel
theorem dJ_writeEnd_15 : decode prog_4_method_5_code 15 = .ok (.iload_n 1, 1) := by decide +kernel
theorem dJ_writeEnd_16 : decode prog_4_method_5_code 16 = .ok (.invokevirtual 28, 3) := by decide +kernel
theorem dJ_writeEnd_19 : decode prog_4_method_5_code 19 = .ok (.istore_n 2, 1) := by decide +kernel
theorem dJ_writeEnd_20 : decode prog_4_method_5_code 20 = .ok (.iload_n 2, 1) := by decide +kernel
theorem dJ_writeEnd_21 : decode prog_4_method_5_code 21 = .ok (.aload_n 0, 1) := by decide +kernel
theorem dJ_writeEnd_22 : decode prog_4_method_5_code 22 = .ok (.getfield 24, 3) := by decide +kernel
theorem dJ_writeEnd_25 : decode prog_4_method_5_code 25 = .ok (.if_icmp .ge 16, 3) := by decide +kernel
theorem dJ_writeEnd_28 : decode prog_4_method_5_code 28 = .ok (.aload_n 0, 1) := by decide +kernel
theorem dJ_writeEnd_29 : decode prog_4_method_5_code 29 = .ok (.getfield 20, 3) := by decide +kernel
theorem dJ_writeEnd_32 : decode prog_4_method_5_code 32 = .ok (.iload_n 2, 1) := by decide +kernel
theorem dJ_writeEnd_33 : decode prog_4_method_5_code 33 = .ok (.iconst 1, 1) := by decide +kernel
theorem dJ_writeEnd_34 : decode prog_4_method_5_code 34 = .ok (.bastore, 1) := by decide +kernel
theorem dJ_writeEnd_35 : decode prog_4_method_5_code 35 = .ok (.iinc 2 1, 3) := by decide +kernel
theorem dJ_writeEnd_38 : decode prog_4_method_5_code 38 = .ok (.goto (-18), 3) := by decide +kernel
theorem dJ_writeEnd_41 : decode prog_4_method_5_code 41 = .ok (.aload_n 0, 1) := by decide +kernel
theorem dJ_writeEnd_42 : decode prog_4_method_5_code 42 = .ok (.getfield 20, 3) := by decide +kernel
theorem dJ_writeEnd_45 : decode prog_4_method_5_code 45 = .ok (.aload_n 0, 1) := by decide +kernel
theorem dJ_writeEnd_46 : decode prog_4_method_5_code 46 = .ok (.getfield 24, 3) := by decide +kernel
theorem dJ_writeEnd_49 : decode prog_4_method_5_code 49 = .ok (.iconst 0, 1) := by decide +kernel
theorem dJ_writeEnd_50 : decode prog_4_method_5_code 50 = .ok (.bastore, 1) := by decide +kernel
theorem dJ_writeEnd_51 : decode prog_4_method_5_code 51 = .ok (.aload_n 0, 1) := by decide +kernel
theorem dJ_writeEnd_52 : decode prog_4_method_5_code 52 = .ok (.dup, 1) := by decide +kernel
theorem dJ_writeEnd_53 : decode prog_4_method_5_code 53 = .ok (.getfield 24, 3) := by decide +kernel
theorem dJ_writeEnd_56 : decode prog_4_method_5_code 56 = .ok (.iconst 1, 1) := by decide +kernel
theorem dJ_writeEnd_57 : decode prog_4_method_5_code 57 = .ok (.iadd, 1) := by decide +kernel
theorem dJ_writeEnd_58 : decode prog_4_method_5_code 58 = .ok (.putfield 24, 3) := by decide +kernel
theorem dJ_writeEnd_61 : decode prog_4_method_5_code 61 = .ok (.iconst 1, 1) := by decide +kernel
theorem dJ_writeEnd_62 : decode prog_4_method_5_code 62 = .ok (.ireturn, 1) := by decide +kernel
theorem dR_drop_0 : decode prog_1_method_6_code 0 = .ok (.aload_n 0, 1) := by decide +kernel
theorem dR_drop_1 : decode prog_1_method_6_code 1 = .ok (.invokevirtual 65, 3) := by decide +kernel
theorem dR_drop_4 : decode prog_1_method_6_code 4 = .ok (.aload_n 0, 1) := by decide +kernel
theorem dR_drop_5 : decode prog_1_method_6_code 5 = .ok (.invokevirtual 82, 3) := by decide +kernel
theorem dR_drop_8 : decode prog_1_method_6_code 8 = .ok (.aload_n 0, 1) := by decide +kernel
theorem dR_drop_9 : decode prog_1_method_6_code 9 = .ok (.getfield 47, 3) := by decide +kernel
theorem dR_drop_12 : decode prog_1_method_6_code 12 = .ok (.istore_n 1, 1) := by decide +kernel
theorem dR_drop_13 : decode prog_1_method_6_code 13 = .ok (.aload_n 0, 1) := by decide +kernel
theorem dR_drop_14 : decode prog_1_method_6_code 14 = .ok (.iconst (-1), 1) := by decide +kernel
theorem dR_drop_15 : decode prog_1_method_6_code 15 = .ok (.putfield 47, 3) := by decide +kernel
theorem dR_drop_18 : decode prog_1_method_6_code 18 = .ok (.iload_n 1, 1) := by decide +kernel
theorem dR_drop_19 : decode prog_1_method_6_code 19 = .ok (.ireturn, 1) := by decide +kernel
theorem dR_snapshot_0 : decode prog_1_method_7_code 0 = .ok (.aload_n 0, 1) := by decide +kernel
theorem dR_snapshot_1 : decode prog_1_method_7_code 1 = .ok (.invokevirtual 65, 3) := by decide +kernel
theorem dR_snapshot_4 : decode prog_1_method_7_code 4 = .ok (.aload_n 0, 1) := by decide +kernel
theorem dR_snapshot_5 : decode prog_1_method_7_code 5 = .ok (.invokevirtual 79, 3) := by decide +kernel
theorem dR_snapshot_8 : decode prog_1_method_7_code 8 = .ok (.aload_n 0, 1) := by decide +kernel
theorem dR_snapshot_9 : decode prog_1_method_7_code 9 = .ok (.invokevirtual 104, 3) := by decide +kernel
theorem dR_snapshot_12 : decode prog_1_method_7_code 12 = .ok (.istore_n 1, 1) := by decide +kernel
theorem dR_snapshot_13 : decode prog_1_method_7_code 13 = .ok (.aload_n 0, 1) := by decide +kernel
theorem dR_snapshot_14 : decode prog_1_method_7_code 14 = .ok (.getfield 43, 3) := by decide +kernel
theorem dR_snapshot_17 : decode prog_1_method_7_code 17 = .ok (.iload_n 1, 1) := by decide +kernel
theorem dR_snapshot_18 : decode prog_1_method_7_code 18 = .ok (.invokevirtual 108, 3) := by decide +kernel
theorem dR_snapshot_21 : decode prog_1_method_7_code 21 = .ok (.iload_n 1, 1) := by decide +kernel
theorem dR_snapshot_22 : decode prog_1_method_7_code 22 = .ok (.if_icmp .ne 31, 3) := by decide +kernel
theorem dR_snapshot_25 : decode prog_1_method_7_code 25 = .ok (.aload_n 0, 1) := by decide +kernel
theorem dR_snapshot_26 : decode prog_1_method_7_code 26 = .ok (.getfield 27, 3) := by decide +kernel
theorem dR_snapshot_29 : decode prog_1_method_7_code 29 = .ok (.aload_n 0, 1) := by decide +kernel
theorem dR_snapshot_30 : decode prog_1_method_7_code 30 = .ok (.getfield 23, 3) := by decide +kernel
theorem dR_snapshot_33 : decode prog_1_method_7_code 33 = .ok (.invokevirtual 85, 3) := by decide +kernel
theorem dR_snapshot_36 : decode prog_1_method_7_code 36 = .ok (.aload_n 0, 1) := by decide +kernel
theorem dR_snapshot_37 : decode prog_1_method_7_code 37 = .ok (.getfield 36, 3) := by decide +kernel
theorem dR_snapshot_40 : decode prog_1_method_7_code 40 = .ok (.invokevirtual 112, 3) := by decide +kernel
theorem dR_snapshot_43 : decode prog_1_method_7_code 43 = .ok (.aload_n 0, 1) := by decide +kernel
theorem dR_snapshot_44 : decode prog_1_method_7_code 44 = .ok (.dup, 1) := by decide +kernel
theorem dR_snapshot_45 : decode prog_1_method_7_code 45 = .ok (.getfield 51, 3) := by decide +kernel
theorem dR_snapshot_48 : decode prog_1_method_7_code 48 = .ok (.iconst 1, 1) := by decide +kernel
theorem dR_snapshot_49 : decode prog_1_method_7_code 49 = .ok (.iadd, 1) := by decide +kernel
theorem dR_snapshot_50 : decode prog_1_method_7_code 50 = .ok (.putfield 51, 3) := by decide +kernel
theorem dR_snapshot_53 : decode prog_1_method_7_code 53 = .ok (.aload_n 0, 1) := by decide +kernel
theorem dR_snapshot_54 : decode prog_1_method_7_code 54 = .ok (.getfield 43, 3) := by decide +kernel
theorem dR_snapshot_57 : decode prog_1_method_7_code 57 = .ok (.invokevirtual 100, 3) := by decide +kernel
theorem dR_snapshot_60 : decode prog_1_method_7_code 60 = .ok (.ifCond .eq 8, 3) := by decide +kernel
theorem dR_snapshot_63 : decode prog_1_method_7_code 63 = .ok (.bipush (-3), 2) := by decide +kernel
theorem dR_snapshot_65 : decode prog_1_method_7_code 65 = .ok (.goto 4, 3) := by decide +kernel
theorem dR_snapshot_68 : decode prog_1_method_7_code 68 = .ok (.iload_n 1, 1) := by decide +kernel
theorem dR_snapshot_69 : decode prog_1_method_7_code 69 = .ok (.ireturn, 1) := by decide +kernel
theorem dR_snapshotBlocks_0 : decode prog_1_method_17_code 0 = .ok (.aload_n 0, 1) := by decide +kernel
theorem dR_snapshotBlocks_1 : decode prog_1_method_17_code 1 = .ok (.getfield 23, 3) := by decide +kernel
theorem dR_snapshotBlocks_4 : decode prog_1_method_17_code 4 = .ok (.invokevirtual 162, 3) := by decide +kernel
theorem dR_snapshotBlocks_7 : decode prog_1_method_17_code 7 = .ok (.bipush 16, 2) := by decide +kernel
theorem dR_snapshotBlocks_9 : decode prog_1_method_17_code 9 = .ok (.iadd, 1) := by decide +kernel
theorem dR_snapshotBlocks_10 : decode prog_1_method_17_code 10 = .ok (.iconst 1, 1) := by decide +kernel
theorem dR_snapshotBlocks_11 : decode prog_1_method_17_code 11 = .ok (.isub, 1) := by decide +kernel
theorem dR_snapshotBlocks_12 : decode prog_1_method_17_code 12 = .ok (.bipush 16, 2) := by decide +kernel
theorem dR_snapshotBlocks_14 : decode prog_1_method_17_code 14 = .ok (.idiv, 1) := by decide +kernel
theorem dR_snapshotBlocks_15 : decode prog_1_method_17_code 15 = .ok (.iconst 1, 1) := by decide +kernel
theorem dR_snapshotBlocks_16 : decode prog_1_method_17_code 16 = .ok (.iadd, 1) := by decide +kernel
theorem dR_snapshotBlocks_17 : decode prog_1_method_17_code 17 = .ok (.ireturn, 1) := by decide +kernel
theorem dA_size_0 : decode prog_2_method_2_code 0 = .ok (.aload_n 0, 1) := by decide +kernel
theorem dA_size_1 : decode prog_2_method_2_code 1 = .ok (.getfield 7, 3) := by decide +kernel
theorem dA_size_4 : decode prog_2_method_2_code 4 = .ok (.arraylength, 1) := by decide +kernel
theorem dA_size_5 : decode prog_2_method_2_code 5 = .ok (.ireturn, 1) := by decide +kernel
theorem dD_writeBlocks_0 : decode prog_3_method_7_code 0 = .ok (.iconst 0, 1) := by decide +kernel
theorem dD_writeBlocks_1 : decode prog_3_method_7_code 1 = .ok (.istore_n 2, 1) := by decide +kernel
theorem dD_writeBlocks_2 : decode prog_3_method_7_code 2 = .ok (.iload_n 2, 1) := by decide +kernel
theorem dD_writeBlocks_3 : decode prog_3_method_7_code 3 = .ok (.iload_n 1, 1) := by decide +kernel
theorem dD_writeBlocks_4 : decode prog_3_method_7_code 4 = .ok (.if_icmp .ge 20, 3) := by decide +kernel
theorem dD_writeBlocks_7 : decode prog_3_method_7_code 7 = .ok (.aload_n 0, 1) := by decide +kernel
theorem dD_writeBlocks_8 : decode prog_3_method_7_code 8 = .ok (.invokevirtual 18, 3) := by decide +kernel
theorem dD_writeBlocks_11 : decode prog_3_method_7_code 11 = .ok (.ifCond .ne 13, 3) := by decide +kernel
theorem dD_writeBlocks_14 : decode prog_3_method_7_code 14 = .ok (.aload_n 0, 1) := by decide +kernel
theorem dD_writeBlocks_15 : decode prog_3_method_7_code 15 = .ok (.invokevirtual 22, 3) := by decide +kernel
theorem dD_writeBlocks_18 : decode prog_3_method_7_code 18 = .ok (.iinc 2 1, 3) := by decide +kernel
theorem dD_writeBlocks_21 : decode prog_3_method_7_code 21 = .ok (.goto (-19), 3) := by decide +kernel
theorem dD_writeBlocks_24 : decode prog_3_method_7_code 24 = .ok (.iload_n 2, 1) := by decide +kernel
theorem dD_writeBlocks_25 : decode prog_3_method_7_code 25 = .ok (.ireturn, 1) := by decide +kernel
theorem dJ_clear_0 : decode prog_4_method_3_code 0 = .ok (.aload_n 0, 1) := by decide +kernel
theorem dJ_clear_1 : decode prog_4_method_3_code 1 = .ok (.iconst 0, 1) := by decide +kernel
theorem dJ_clear_2 : decode prog_4_method_3_code 2 = .ok (.putfield 24, 3) := by decide +kernel
theorem dJ_clear_5 : decode prog_4_method_3_code 5 = .ok (.return_, 1) := by decide +kernel
theorem dR_crash_0 : decode prog_1_method_8_code 0 = .ok (.iload_n 1, 1) := by decide +kernel
theorem dR_crash_1 : decode prog_1_method_8_code 1 = .ok (.i2l, 1) := by decide +kernel
theorem dR_crash_2 : decode prog_1_method_8_code 2 = .ok (.ldc2_w 115, 3) := by decide +kernel
theorem dR_crash_5 : decode prog_1_method_8_code 5 = .ok (.ldc2_w 117, 3) := by decide +kernel
theorem dR_crash_8 : decode prog_1_method_8_code 8 = .ok (.invokestatic 61, 3) := by decide +kernel
theorem dR_crash_11 : decode prog_1_method_8_code 11 = .ok (.aload_n 0, 1) := by decide +kernel
theorem dR_crash_12 : decode prog_1_method_8_code 12 = .ok (.invokevirtual 65, 3) := by decide +kernel
theorem dR_crash_15 : decode prog_1_method_8_code 15 = .ok (.aload_n 0, 1) := by decide +kernel
theorem dR_crash_16 : decode prog_1_method_8_code 16 = .ok (.getfield 43, 3) := by decide +kernel
theorem dR_crash_19 : decode prog_1_method_8_code 19 = .ok (.iload_n 1, 1) := by decide +kernel
theorem dR_crash_20 : decode prog_1_method_8_code 20 = .ok (.invokevirtual 119, 3) := by decide +kernel
theorem dR_crash_23 : decode prog_1_method_8_code 23 = .ok (.return_, 1) := by decide +kernel
theorem dD_failAfter_0 : decode prog_3_method_4_code 0 = .ok (.aload_n 0, 1) := by decide +kernel
theorem dD_failAfter_1 : decode prog_3_method_4_code 1 = .ok (.iload_n 1, 1) := by decide +kernel
theorem dD_failAfter_2 : decode prog_3_method_4_code 2 = .ok (.putfield 15, 3) := by decide +kernel
theorem dD_failAfter_5 : decode prog_3_method_4_code 5 = .ok (.return_, 1) := by decide +kernel
theorem dR_amount_0 : decode prog_1_method_11_code 0 = .ok (.aload_n 0, 1) := by decide +kernel
theorem dR_amount_1 : decode prog_1_method_11_code 1 = .ok (.iload_n 1, 1) := by decide +kernel
theorem dR_amount_2 : decode prog_1_method_11_code 2 = .ok (.invokevirtual 54, 3) := by decide +kernel
theorem dR_amount_5 : decode prog_1_method_11_code 5 = .ok (.aload_n 0, 1) := by decide +kernel
theorem dR_amount_6 : decode prog_1_method_11_code 6 = .ok (.invokevirtual 65, 3) := by decide +kernel
theorem dR_amount_9 : decode prog_1_method_11_code 9 = .ok (.aload_n 0, 1) := by decide +kernel
theorem dR_amount_10 : decode prog_1_method_11_code 10 = .ok (.getfield 23, 3) := by decide +kernel
theorem dR_amount_13 : decode prog_1_method_11_code 13 = .ok (.iload_n 1, 1) := by decide +kernel
theorem dR_amount_14 : decode prog_1_method_11_code 14 = .ok (.invokevirtual 129, 3) := by decide +kernel
theorem dR_amount_17 : decode prog_1_method_11_code 17 = .ok (.lreturn, 1) := by decide +kernel
theorem dA_amountOf_0 : decode prog_2_method_4_code 0 = .ok (.aload_n 0, 1) := by decide +kernel
theorem dA_amountOf_1 : decode prog_2_method_4_code 1 = .ok (.iload_n 1, 1) := by decide +kernel
theorem dA_amountOf_2 : decode prog_2_method_4_code 2 = .ok (.invokevirtual 17, 3) := by decide +kernel
theorem dA_amountOf_5 : decode prog_2_method_4_code 5 = .ok (.ifCond .eq 12, 3) := by decide +kernel
theorem dA_amountOf_8 : decode prog_2_method_4_code 8 = .ok (.aload_n 0, 1) := by decide +kernel
theorem dA_amountOf_9 : decode prog_2_method_4_code 9 = .ok (.getfield 7, 3) := by decide +kernel
theorem dA_amountOf_12 : decode prog_2_method_4_code 12 = .ok (.iload_n 1, 1) := by decide +kernel
theorem dA_amountOf_13 : decode prog_2_method_4_code 13 = .ok (.laload, 1) := by decide +kernel
theorem dA_amountOf_14 : decode prog_2_method_4_code 14 = .ok (.goto 4, 3) := by decide +kernel
theorem dA_amountOf_17 : decode prog_2_method_4_code 17 = .ok (.lconst 0, 1) := by decide +kernel
theorem dA_amountOf_18 : decode prog_2_method_4_code 18 = .ok (.lreturn, 1) := by decide +kernel
theorem dR_changes_0 : decode prog_1_method_12_code 0 = .ok (.aload_n 0, 1) := by decide +kernel
theorem dR_changes_1 : decode prog_1_method_12_code 1 = .ok (.iload_n 1, 1) := by decide +kernel
theorem dR_changes_2 : decode prog_1_method_12_code 2 = .ok (.invokevirtual 54, 3) := by decide +kernel
theorem dR_changes_5 : decode prog_1_method_12_code 5 = .ok (.aload_n 0, 1) := by decide +kernel
theorem dR_changes_6 : decode prog_1_method_12_code 6 = .ok (.invokevirtual 65, 3) := by decide +kernel
theorem dR_changes_9 : decode prog_1_method_12_code 9 = .ok (.aload_n 0, 1) := by decide +kernel
theorem dR_changes_10 : decode prog_1_method_12_code 10 = .ok (.getfield 23, 3) := by decide +kernel
theorem dR_changes_13 : decode prog_1_method_12_code 13 = .ok (.iload_n 1, 1) := by decide +kernel
theorem dR_changes_14 : decode prog_1_method_12_code 14 = .ok (.invokevirtual 133, 3) := by decide +kernel
theorem dR_changes_17 : decode prog_1_method_12_code 17 = .ok (.ireturn, 1) := by decide +kernel
theorem dA_changesOf_0 : decode prog_2_method_5_code 0 = .ok (.aload_n 0, 1) := by decide +kernel
theorem dA_changesOf_1 : decode prog_2_method_5_code 1 = .ok (.iload_n 1, 1) := by decide +kernel
theorem dA_changesOf_2 : decode prog_2_method_5_code 2 = .ok (.invokevirtual 17, 3) := by decide +kernel
theorem dA_changesOf_5 : decode prog_2_method_5_code 5 = .ok (.ifCond .eq 12, 3) := by decide +kernel
theorem dA_changesOf_8 : decode prog_2_method_5_code 8 = .ok (.aload_n 0, 1) := by decide +kernel
theorem dA_changesOf_9 : decode prog_2_method_5_code 9 = .ok (.getfield 13, 3) := by decide +kernel
theorem dA_changesOf_12 : decode prog_2_method_5_code 12 = .ok (.iload_n 1, 1) := by decide +kernel
theorem dA_changesOf_13 : decode prog_2_method_5_code 13 = .ok (.iaload, 1) := by decide +kernel
theorem dA_changesOf_14 : decode prog_2_method_5_code 14 = .ok (.goto 4, 3) := by decide +kernel
theorem dA_changesOf_17 : decode prog_2_method_5_code 17 = .ok (.iconst 0, 1) := by decide +kernel
theorem dA_changesOf_18 : decode prog_2_method_5_code 18 = .ok (.ireturn, 1) := by decide +kernel
theorem dR_count_0 : decode prog_1_method_13_code 0 = .ok (.iload_n 1, 1) := by decide +kernel
theorem dR_count_1 : decode prog_1_method_13_code 1 = .ok (.i2l, 1) := by decide +kernel
theorem dR_count_2 : decode prog_1_method_13_code 2 = .ok (.lconst 0, 1) := by decide +kernel
theorem dR_count_3 : decode prog_1_method_13_code 3 = .ok (.ldc2_w 136, 3) := by decide +kernel
theorem dR_count_6 : decode prog_1_method_13_code 6 = .ok (.invokestatic 61, 3) := by decide +kernel
theorem dR_count_9 : decode prog_1_method_13_code 9 = .ok (.aload_n 0, 1) := by decide +kernel
theorem dR_count_10 : decode prog_1_method_13_code 10 = .ok (.invokevirtual 65, 3) := by decide +kernel
theorem dR_count_13 : decode prog_1_method_13_code 13 = .ok (.iload_n 1, 1) := by decide +kernel
theorem dR_count_14 : decode prog_1_method_13_code 14 = .ok (.tableswitch 47 0 2 #[26, 34, 42], 26) := by decide +kernel
theorem dR_count_40 : decode prog_1_method_13_code 40 = .ok (.aload_n 0, 1) := by decide +kernel
theorem dR_count_41 : decode prog_1_method_13_code 41 = .ok (.getfield 36, 3) := by decide +kernel
theorem dR_count_44 : decode prog_1_method_13_code 44 = .ok (.invokevirtual 138, 3) := by decide +kernel
theorem dR_count_47 : decode prog_1_method_13_code 47 = .ok (.ireturn, 1) := by decide +kernel
theorem dR_count_48 : decode prog_1_method_13_code 48 = .ok (.aload_n 0, 1) := by decide +kernel
theorem dR_count_49 : decode prog_1_method_13_code 49 = .ok (.getfield 43, 3) := by decide +kernel
theorem dR_count_52 : decode prog_1_method_13_code 52 = .ok (.invokevirtual 141, 3) := by decide +kernel
theorem dR_count_55 : decode prog_1_method_13_code 55 = .ok (.ireturn, 1) := by decide +kernel
theorem dR_count_56 : decode prog_1_method_13_code 56 = .ok (.aload_n 0, 1) := by decide +kernel
theorem dR_count_57 : decode prog_1_method_13_code 57 = .ok (.getfield 47, 3) := by decide +kernel
theorem dR_count_60 : decode prog_1_method_13_code 60 = .ok (.ireturn, 1) := by decide +kernel
theorem dR_count_61 : decode prog_1_method_13_code 61 = .ok (.aload_n 0, 1) := by decide +kernel
theorem dR_count_62 : decode prog_1_method_13_code 62 = .ok (.getfield 51, 3) := by decide +kernel
theorem dR_count_65 : decode prog_1_method_13_code 65 = .ok (.ireturn, 1) := by decide +kernel
theorem dJ_usedBlocks_0 : decode prog_4_method_2_code 0 = .ok (.aload_n 0, 1) := by decide +kernel
theorem dJ_usedBlocks_1 : decode prog_4_method_2_code 1 = .ok (.getfield 24, 3) := by decide +kernel
theorem dJ_usedBlocks_4 : decode prog_4_method_2_code 4 = .ok (.ireturn, 1) := by decide +kernel
theorem dD_writtenBlocks_0 : decode prog_3_method_3_code 0 = .ok (.aload_n 0, 1) := by decide +kernel
theorem dD_writtenBlocks_1 : decode prog_3_method_3_code 1 = .ok (.getfield 9, 3) := by decide +kernel
theorem dD_writtenBlocks_4 : decode prog_3_method_3_code 4 = .ok (.ireturn, 1) := by decide +kernel
