theorem dMod_thrown_0 : decode cMod_thrown 0 = .ok (.aload_n 0, 1) := by decide +kernel
theorem dMod_thrown_1 : decode cMod_thrown 1 = .ok (.getfield 83, 3) := by decide +kernel
theorem dMod_thrown_4 : decode cMod_thrown 4 = .ok (.ireturn, 1) := by decide +kernel
theorem dMod_keys_0 : decode cMod_keys 0 = .ok (.aload_n 0, 1) := by decide +kernel
theorem dMod_keys_1 : decode cMod_keys 1 = .ok (.iconst 0, 1) := by decide +kernel
theorem dMod_keys_2 : decode cMod_keys 2 = .ok (.putfield 83, 3) := by decide +kernel
theorem dMod_keys_5 : decode cMod_keys 5 = .ok (.aload_n 0, 1) := by decide +kernel
theorem dMod_keys_6 : decode cMod_keys 6 = .ok (.getfield 107, 3) := by decide +kernel
theorem dMod_keys_9 : decode cMod_keys 9 = .ok (.ireturn, 1) := by decide +kernel
theorem dMod_logged_0 : decode cMod_logged 0 = .ok (.aload_n 0, 1) := by decide +kernel
theorem dMod_logged_1 : decode cMod_logged 1 = .ok (.iconst 0, 1) := by decide +kernel
theorem dMod_logged_2 : decode cMod_logged 2 = .ok (.putfield 83, 3) := by decide +kernel
theorem dMod_logged_5 : decode cMod_logged 5 = .ok (.aload_n 0, 1) := by decide +kernel
theorem dMod_logged_6 : decode cMod_logged 6 = .ok (.getfield 117, 3) := by decide +kernel
theorem dMod_logged_9 : decode cMod_logged 9 = .ok (.ireturn, 1) := by decide +kernel
theorem dMod_used_0 : decode cMod_used 0 = .ok (.aload_n 0, 1) := by decide +kernel
theorem dMod_used_1 : decode cMod_used 1 = .ok (.iconst 0, 1) := by decide +kernel
theorem dMod_used_2 : decode cMod_used 2 = .ok (.putfield 83, 3) := by decide +kernel
theorem dMod_used_5 : decode cMod_used 5 = .ok (.aload_n 0, 1) := by decide +kernel
theorem dMod_used_6 : decode cMod_used 6 = .ok (.getfield 120, 3) := by decide +kernel
theorem dMod_used_9 : decode cMod_used 9 = .ok (.ireturn, 1) := by decide +kernel
theorem dMod_result_0 : decode cMod_result 0 = .ok (.aload_n 0, 1) := by decide +kernel
theorem dMod_result_1 : decode cMod_result 1 = .ok (.iconst 0, 1) := by decide +kernel
theorem dMod_result_2 : decode cMod_result 2 = .ok (.putfield 83, 3) := by decide +kernel
theorem dMod_result_5 : decode cMod_result 5 = .ok (.aload_n 0, 1) := by decide +kernel
theorem dMod_result_6 : decode cMod_result 6 = .ok (.getfield 123, 3) := by decide +kernel
theorem dMod_result_9 : decode cMod_result 9 = .ok (.ireturn, 1) := by decide +kernel
theorem dMod_noAccount_0 : decode cMod_noAccount 0 = .ok (.iload_n 1, 1) := by decide +kernel
theorem dMod_noAccount_1 : decode cMod_noAccount 1 = .ok (.ifCond .lt 11, 3) := by decide +kernel
theorem dMod_noAccount_4 : decode cMod_noAccount 4 = .ok (.iload_n 1, 1) := by decide +kernel
theorem dMod_noAccount_5 : decode cMod_noAccount 5 = .ok (.aload_n 0, 1) := by decide +kernel
theorem dMod_noAccount_6 : decode cMod_noAccount 6 = .ok (.getfield 87, 3) := by decide +kernel
theorem dMod_noAccount_9 : decode cMod_noAccount 9 = .ok (.if_icmp .lt 7, 3) := by decide +kernel
theorem dMod_noAccount_12 : decode cMod_noAccount 12 = .ok (.iconst 1, 1) := by decide +kernel
theorem dMod_noAccount_13 : decode cMod_noAccount 13 = .ok (.goto 4, 3) := by decide +kernel
theorem dMod_noAccount_16 : decode cMod_noAccount 16 = .ok (.iconst 0, 1) := by decide +kernel
theorem dMod_noAccount_17 : decode cMod_noAccount 17 = .ok (.ireturn, 1) := by decide +kernel
theorem dMod_supply_0 : decode cMod_supply 0 = .ok (.aload_n 0, 1) := by decide +kernel
theorem dMod_supply_1 : decode cMod_supply 1 = .ok (.iconst 0, 1) := by decide +kernel
theorem dMod_supply_2 : decode cMod_supply 2 = .ok (.putfield 83, 3) := by decide +kernel
theorem dMod_supply_5 : decode cMod_supply 5 = .ok (.iconst 0, 1) := by decide +kernel
theorem dMod_supply_6 : decode cMod_supply 6 = .ok (.istore_n 1, 1) := by decide +kernel
theorem dMod_supply_7 : decode cMod_supply 7 = .ok (.iconst 0, 1) := by decide +kernel
theorem dMod_supply_8 : decode cMod_supply 8 = .ok (.istore_n 2, 1) := by decide +kernel
theorem dMod_supply_9 : decode cMod_supply 9 = .ok (.iload_n 2, 1) := by decide +kernel
theorem dMod_supply_10 : decode cMod_supply 10 = .ok (.aload_n 0, 1) := by decide +kernel
theorem dMod_supply_11 : decode cMod_supply 11 = .ok (.getfield 87, 3) := by decide +kernel
theorem dMod_supply_14 : decode cMod_supply 14 = .ok (.if_icmp .ge 18, 3) := by decide +kernel
theorem dMod_supply_17 : decode cMod_supply 17 = .ok (.iload_n 1, 1) := by decide +kernel
theorem dMod_supply_18 : decode cMod_supply 18 = .ok (.aload_n 0, 1) := by decide +kernel
theorem dMod_supply_19 : decode cMod_supply 19 = .ok (.getfield 7, 3) := by decide +kernel
theorem dMod_supply_22 : decode cMod_supply 22 = .ok (.iload_n 2, 1) := by decide +kernel
theorem dMod_supply_23 : decode cMod_supply 23 = .ok (.iaload, 1) := by decide +kernel
theorem dMod_supply_24 : decode cMod_supply 24 = .ok (.iadd, 1) := by decide +kernel
theorem dMod_supply_25 : decode cMod_supply 25 = .ok (.istore_n 1, 1) := by decide +kernel
theorem dMod_supply_26 : decode cMod_supply 26 = .ok (.iinc 2 1, 3) := by decide +kernel
theorem dMod_supply_29 : decode cMod_supply 29 = .ok (.goto (-20), 3) := by decide +kernel
theorem dMod_supply_32 : decode cMod_supply 32 = .ok (.iload_n 1, 1) := by decide +kernel
theorem dMod_supply_33 : decode cMod_supply 33 = .ok (.ireturn, 1) := by decide +kernel
theorem dMod_open_0 : decode cMod_open 0 = .ok (.aload_n 0, 1) := by decide +kernel
theorem dMod_open_1 : decode cMod_open 1 = .ok (.invokevirtual 90, 3) := by decide +kernel
theorem dMod_open_4 : decode cMod_open 4 = .ok (.istore_n 2, 1) := by decide +kernel
theorem dMod_open_5 : decode cMod_open 5 = .ok (.aload_n 0, 1) := by decide +kernel
theorem dMod_open_6 : decode cMod_open 6 = .ok (.iload_n 1, 1) := by decide +kernel
theorem dMod_open_7 : decode cMod_open 7 = .ok (.ifCond .ge 7, 3) := by decide +kernel
theorem dMod_open_10 : decode cMod_open 10 = .ok (.iconst 1, 1) := by decide +kernel
theorem dMod_open_11 : decode cMod_open 11 = .ok (.goto 4, 3) := by decide +kernel
theorem dMod_open_14 : decode cMod_open 14 = .ok (.iconst 0, 1) := by decide +kernel
theorem dMod_open_15 : decode cMod_open 15 = .ok (.putfield 83, 3) := by decide +kernel
theorem dMod_open_18 : decode cMod_open 18 = .ok (.aload_n 0, 1) := by decide +kernel
theorem dMod_open_19 : decode cMod_open 19 = .ok (.getfield 83, 3) := by decide +kernel
theorem dMod_open_22 : decode cMod_open 22 = .ok (.ifCond .le 5, 3) := by decide +kernel
theorem dMod_open_25 : decode cMod_open 25 = .ok (.iconst 0, 1) := by decide +kernel
theorem dMod_open_26 : decode cMod_open 26 = .ok (.ireturn, 1) := by decide +kernel
theorem dMod_open_27 : decode cMod_open 27 = .ok (.aload_n 0, 1) := by decide +kernel
theorem dMod_open_28 : decode cMod_open 28 = .ok (.getfield 87, 3) := by decide +kernel
theorem dMod_open_31 : decode cMod_open 31 = .ok (.bipush 24, 2) := by decide +kernel
theorem dMod_open_33 : decode cMod_open 33 = .ok (.if_icmp .eq 15, 3) := by decide +kernel
theorem dMod_open_36 : decode cMod_open 36 = .ok (.iload_n 2, 1) := by decide +kernel
theorem dMod_open_37 : decode cMod_open 37 = .ok (.i2l, 1) := by decide +kernel
theorem dMod_open_38 : decode cMod_open 38 = .ok (.iload_n 1, 1) := by decide +kernel
theorem dMod_open_39 : decode cMod_open 39 = .ok (.i2l, 1) := by decide +kernel
theorem dMod_open_40 : decode cMod_open 40 = .ok (.ladd, 1) := by decide +kernel
theorem dMod_open_41 : decode cMod_open 41 = .ok (.ldc2_w 94, 3) := by decide +kernel
theorem dMod_open_44 : decode cMod_open 44 = .ok (.lcmp, 1) := by decide +kernel
theorem dMod_open_45 : decode cMod_open 45 = .ok (.ifCond .le 5, 3) := by decide +kernel
theorem dMod_open_48 : decode cMod_open 48 = .ok (.iconst (-1), 1) := by decide +kernel
theorem dMod_open_49 : decode cMod_open 49 = .ok (.ireturn, 1) := by decide +kernel
theorem dMod_open_50 : decode cMod_open 50 = .ok (.aload_n 0, 1) := by decide +kernel
theorem dMod_open_51 : decode cMod_open 51 = .ok (.getfield 7, 3) := by decide +kernel
theorem dMod_open_54 : decode cMod_open 54 = .ok (.aload_n 0, 1) := by decide +kernel
theorem dMod_open_55 : decode cMod_open 55 = .ok (.getfield 87, 3) := by decide +kernel
theorem dMod_open_58 : decode cMod_open 58 = .ok (.iload_n 1, 1) := by decide +kernel
theorem dMod_open_59 : decode cMod_open 59 = .ok (.iastore, 1) := by decide +kernel
theorem dMod_open_60 : decode cMod_open 60 = .ok (.aload_n 0, 1) := by decide +kernel
theorem dMod_open_61 : decode cMod_open 61 = .ok (.getfield 16, 3) := by decide +kernel
theorem dMod_open_64 : decode cMod_open 64 = .ok (.aload_n 0, 1) := by decide +kernel
theorem dMod_open_65 : decode cMod_open 65 = .ok (.getfield 87, 3) := by decide +kernel
theorem dMod_open_68 : decode cMod_open 68 = .ok (.iconst 0, 1) := by decide +kernel
theorem dMod_open_69 : decode cMod_open 69 = .ok (.iastore, 1) := by decide +kernel
theorem dMod_open_70 : decode cMod_open 70 = .ok (.aload_n 0, 1) := by decide +kernel
theorem dMod_open_71 : decode cMod_open 71 = .ok (.getfield 19, 3) := by decide +kernel
theorem dMod_open_74 : decode cMod_open 74 = .ok (.aload_n 0, 1) := by decide +kernel
theorem dMod_open_75 : decode cMod_open 75 = .ok (.getfield 87, 3) := by decide +kernel
theorem dMod_open_78 : decode cMod_open 78 = .ok (.iconst 0, 1) := by decide +kernel
theorem dMod_open_79 : decode cMod_open 79 = .ok (.bastore, 1) := by decide +kernel
theorem dMod_open_80 : decode cMod_open 80 = .ok (.aload_n 0, 1) := by decide +kernel
theorem dMod_open_81 : decode cMod_open 81 = .ok (.dup, 1) := by decide +kernel
theorem dMod_open_82 : decode cMod_open 82 = .ok (.getfield 87, 3) := by decide +kernel
theorem dMod_open_85 : decode cMod_open 85 = .ok (.iconst 1, 1) := by decide +kernel
theorem dMod_open_86 : decode cMod_open 86 = .ok (.iadd, 1) := by decide +kernel
theorem dMod_open_87 : decode cMod_open 87 = .ok (.putfield 87, 3) := by decide +kernel
theorem dMod_open_90 : decode cMod_open 90 = .ok (.aload_n 0, 1) := by decide +kernel
theorem dMod_open_91 : decode cMod_open 91 = .ok (.getfield 87, 3) := by decide +kernel
theorem dMod_open_94 : decode cMod_open 94 = .ok (.iconst 1, 1) := by decide +kernel
theorem dMod_open_95 : decode cMod_open 95 = .ok (.isub, 1) := by decide +kernel
theorem dMod_open_96 : decode cMod_open 96 = .ok (.ireturn, 1) := by decide +kernel
theorem dMod_code_0 : decode cMod_code 0 = .ok (.aload_n 0, 1) := by decide +kernel
theorem dMod_code_1 : decode cMod_code 1 = .ok (.aload_n 0, 1) := by decide +kernel
theorem dMod_code_2 : decode cMod_code 2 = .ok (.iload_n 1, 1) := by decide +kernel
theorem dMod_code_3 : decode cMod_code 3 = .ok (.invokevirtual 96, 3) := by decide +kernel
theorem dMod_code_6 : decode cMod_code 6 = .ok (.ifCond .eq 7, 3) := by decide +kernel
theorem dMod_code_9 : decode cMod_code 9 = .ok (.iconst 1, 1) := by decide +kernel
theorem dMod_code_10 : decode cMod_code 10 = .ok (.goto 17, 3) := by decide +kernel
theorem dMod_code_13 : decode cMod_code 13 = .ok (.aload_n 0, 1) := by decide +kernel
theorem dMod_code_14 : decode cMod_code 14 = .ok (.getfield 19, 3) := by decide +kernel
theorem dMod_code_17 : decode cMod_code 17 = .ok (.iload_n 1, 1) := by decide +kernel
theorem dMod_code_18 : decode cMod_code 18 = .ok (.baload, 1) := by decide +kernel
theorem dMod_code_19 : decode cMod_code 19 = .ok (.ifCond .eq 7, 3) := by decide +kernel
theorem dMod_code_22 : decode cMod_code 22 = .ok (.iconst 2, 1) := by decide +kernel
theorem dMod_code_23 : decode cMod_code 23 = .ok (.goto 4, 3) := by decide +kernel
theorem dMod_code_26 : decode cMod_code 26 = .ok (.iconst 0, 1) := by decide +kernel
theorem dMod_code_27 : decode cMod_code 27 = .ok (.putfield 83, 3) := by decide +kernel
theorem dMod_code_30 : decode cMod_code 30 = .ok (.aload_n 0, 1) := by decide +kernel
theorem dMod_code_31 : decode cMod_code 31 = .ok (.getfield 83, 3) := by decide +kernel
theorem dMod_code_34 : decode cMod_code 34 = .ok (.ifCond .le 5, 3) := by decide +kernel
theorem dMod_code_37 : decode cMod_code 37 = .ok (.iconst 0, 1) := by decide +kernel
theorem dMod_code_38 : decode cMod_code 38 = .ok (.ireturn, 1) := by decide +kernel
theorem dMod_code_39 : decode cMod_code 39 = .ok (.aload_n 0, 1) := by decide +kernel
theorem dMod_code_40 : decode cMod_code 40 = .ok (.getfield 16, 3) := by decide +kernel
theorem dMod_code_43 : decode cMod_code 43 = .ok (.iload_n 1, 1) := by decide +kernel
theorem dMod_code_44 : decode cMod_code 44 = .ok (.iaload, 1) := by decide +kernel
theorem dMod_code_45 : decode cMod_code 45 = .ok (.sipush 160, 3) := by decide +kernel
theorem dMod_code_48 : decode cMod_code 48 = .ok (.if_icmp .ne 5, 3) := by decide +kernel
theorem dMod_code_51 : decode cMod_code 51 = .ok (.iconst (-1), 1) := by decide +kernel
theorem dMod_code_52 : decode cMod_code 52 = .ok (.ireturn, 1) := by decide +kernel
theorem dMod_code_53 : decode cMod_code 53 = .ok (.aload_n 0, 1) := by decide +kernel
theorem dMod_code_54 : decode cMod_code 54 = .ok (.getfield 13, 3) := by decide +kernel
theorem dMod_code_57 : decode cMod_code 57 = .ok (.sipush 160, 3) := by decide +kernel
theorem dMod_code_60 : decode cMod_code 60 = .ok (.iload_n 1, 1) := by decide +kernel
theorem dMod_code_61 : decode cMod_code 61 = .ok (.imul, 1) := by decide +kernel
theorem dMod_code_62 : decode cMod_code 62 = .ok (.aload_n 0, 1) := by decide +kernel
theorem dMod_code_63 : decode cMod_code 63 = .ok (.getfield 16, 3) := by decide +kernel
theorem dMod_code_66 : decode cMod_code 66 = .ok (.iload_n 1, 1) := by decide +kernel
theorem dMod_code_67 : decode cMod_code 67 = .ok (.iaload, 1) := by decide +kernel
theorem dMod_code_68 : decode cMod_code 68 = .ok (.iadd, 1) := by decide +kernel
theorem dMod_code_69 : decode cMod_code 69 = .ok (.iload_n 2, 1) := by decide +kernel
theorem dMod_code_70 : decode cMod_code 70 = .ok (.iastore, 1) := by decide +kernel
theorem dMod_code_71 : decode cMod_code 71 = .ok (.aload_n 0, 1) := by decide +kernel
theorem dMod_code_72 : decode cMod_code 72 = .ok (.getfield 16, 3) := by decide +kernel
theorem dMod_code_75 : decode cMod_code 75 = .ok (.iload_n 1, 1) := by decide +kernel
theorem dMod_code_76 : decode cMod_code 76 = .ok (.dup2, 1) := by decide +kernel
theorem dMod_code_77 : decode cMod_code 77 = .ok (.iaload, 1) := by decide +kernel
theorem dMod_code_78 : decode cMod_code 78 = .ok (.iconst 1, 1) := by decide +kernel
theorem dMod_code_79 : decode cMod_code 79 = .ok (.iadd, 1) := by decide +kernel
theorem dMod_code_80 : decode cMod_code 80 = .ok (.iastore, 1) := by decide +kernel
theorem dMod_code_81 : decode cMod_code 81 = .ok (.aload_n 0, 1) := by decide +kernel
theorem dMod_code_82 : decode cMod_code 82 = .ok (.getfield 16, 3) := by decide +kernel
theorem dMod_code_85 : decode cMod_code 85 = .ok (.iload_n 1, 1) := by decide +kernel
theorem dMod_code_86 : decode cMod_code 86 = .ok (.iaload, 1) := by decide +kernel
theorem dMod_code_87 : decode cMod_code 87 = .ok (.ireturn, 1) := by decide +kernel
theorem dMod_seal_0 : decode cMod_seal 0 = .ok (.aload_n 0, 1) := by decide +kernel
theorem dMod_seal_1 : decode cMod_seal 1 = .ok (.aload_n 0, 1) := by decide +kernel
theorem dMod_seal_2 : decode cMod_seal 2 = .ok (.iload_n 1, 1) := by decide +kernel
theorem dMod_seal_3 : decode cMod_seal 3 = .ok (.invokevirtual 96, 3) := by decide +kernel
theorem dMod_seal_6 : decode cMod_seal 6 = .ok (.ifCond .eq 7, 3) := by decide +kernel
theorem dMod_seal_9 : decode cMod_seal 9 = .ok (.iconst 1, 1) := by decide +kernel
theorem dMod_seal_10 : decode cMod_seal 10 = .ok (.goto 17, 3) := by decide +kernel
theorem dMod_seal_13 : decode cMod_seal 13 = .ok (.aload_n 0, 1) := by decide +kernel
theorem dMod_seal_14 : decode cMod_seal 14 = .ok (.getfield 19, 3) := by decide +kernel
theorem dMod_seal_17 : decode cMod_seal 17 = .ok (.iload_n 1, 1) := by decide +kernel
theorem dMod_seal_18 : decode cMod_seal 18 = .ok (.baload, 1) := by decide +kernel
theorem dMod_seal_19 : decode cMod_seal 19 = .ok (.ifCond .eq 7, 3) := by decide +kernel
theorem dMod_seal_22 : decode cMod_seal 22 = .ok (.iconst 2, 1) := by decide +kernel
theorem dMod_seal_23 : decode cMod_seal 23 = .ok (.goto 4, 3) := by decide +kernel
theorem dMod_seal_26 : decode cMod_seal 26 = .ok (.iconst 0, 1) := by decide +kernel
theorem dMod_seal_27 : decode cMod_seal 27 = .ok (.putfield 83, 3) := by decide +kernel
theorem dMod_seal_30 : decode cMod_seal 30 = .ok (.aload_n 0, 1) := by decide +kernel
theorem dMod_seal_31 : decode cMod_seal 31 = .ok (.getfield 83, 3) := by decide +kernel
theorem dMod_seal_34 : decode cMod_seal 34 = .ok (.ifCond .le 5, 3) := by decide +kernel
theorem dMod_seal_37 : decode cMod_seal 37 = .ok (.iconst 0, 1) := by decide +kernel
theorem dMod_seal_38 : decode cMod_seal 38 = .ok (.ireturn, 1) := by decide +kernel
theorem dMod_seal_39 : decode cMod_seal 39 = .ok (.iconst 0, 1) := by decide +kernel
theorem dMod_seal_40 : decode cMod_seal 40 = .ok (.istore_n 2, 1) := by decide +kernel
theorem dMod_seal_41 : decode cMod_seal 41 = .ok (.iload_n 2, 1) := by decide +kernel
theorem dMod_seal_42 : decode cMod_seal 42 = .ok (.aload_n 0, 1) := by decide +kernel
theorem dMod_seal_43 : decode cMod_seal 43 = .ok (.getfield 16, 3) := by decide +kernel
theorem dMod_seal_46 : decode cMod_seal 46 = .ok (.iload_n 1, 1) := by decide +kernel
theorem dMod_seal_47 : decode cMod_seal 47 = .ok (.iaload, 1) := by decide +kernel
theorem dMod_seal_48 : decode cMod_seal 48 = .ok (.if_icmp .ge 42, 3) := by decide +kernel
theorem dMod_seal_51 : decode cMod_seal 51 = .ok (.aload_n 0, 1) := by decide +kernel
theorem dMod_seal_52 : decode cMod_seal 52 = .ok (.getfield 13, 3) := by decide +kernel
theorem dMod_seal_55 : decode cMod_seal 55 = .ok (.sipush 160, 3) := by decide +kernel
theorem dMod_seal_58 : decode cMod_seal 58 = .ok (.iload_n 1, 1) := by decide +kernel
theorem dMod_seal_59 : decode cMod_seal 59 = .ok (.imul, 1) := by decide +kernel
theorem dMod_seal_60 : decode cMod_seal 60 = .ok (.iload_n 2, 1) := by decide +kernel
theorem dMod_seal_61 : decode cMod_seal 61 = .ok (.iadd, 1) := by decide +kernel
theorem dMod_seal_62 : decode cMod_seal 62 = .ok (.iaload, 1) := by decide +kernel
theorem dMod_seal_63 : decode cMod_seal 63 = .ok (.aload_n 0, 1) := by decide +kernel
theorem dMod_seal_64 : decode cMod_seal 64 = .ok (.getfield 16, 3) := by decide +kernel
theorem dMod_seal_67 : decode cMod_seal 67 = .ok (.iload_n 1, 1) := by decide +kernel
theorem dMod_seal_68 : decode cMod_seal 68 = .ok (.iaload, 1) := by decide +kernel
theorem dMod_seal_69 : decode cMod_seal 69 = .ok (.invokestatic 100, 3) := by decide +kernel
theorem dMod_seal_72 : decode cMod_seal 72 = .ok (.ifCond .ne 12, 3) := by decide +kernel
theorem dMod_seal_75 : decode cMod_seal 75 = .ok (.aload_n 0, 1) := by decide +kernel
theorem dMod_seal_76 : decode cMod_seal 76 = .ok (.getfield 16, 3) := by decide +kernel
theorem dMod_seal_79 : decode cMod_seal 79 = .ok (.iload_n 1, 1) := by decide +kernel
theorem dMod_seal_80 : decode cMod_seal 80 = .ok (.iconst 0, 1) := by decide +kernel
theorem dMod_seal_81 : decode cMod_seal 81 = .ok (.iastore, 1) := by decide +kernel
theorem dMod_seal_82 : decode cMod_seal 82 = .ok (.iload_n 2, 1) := by decide +kernel
theorem dMod_seal_83 : decode cMod_seal 83 = .ok (.ireturn, 1) := by decide +kernel
theorem dMod_seal_84 : decode cMod_seal 84 = .ok (.iinc 2 1, 3) := by decide +kernel
theorem dMod_seal_87 : decode cMod_seal 87 = .ok (.goto (-46), 3) := by decide +kernel
theorem dMod_seal_90 : decode cMod_seal 90 = .ok (.aload_n 0, 1) := by decide +kernel
theorem dMod_seal_91 : decode cMod_seal 91 = .ok (.getfield 19, 3) := by decide +kernel
theorem dMod_seal_94 : decode cMod_seal 94 = .ok (.iload_n 1, 1) := by decide +kernel
theorem dMod_seal_95 : decode cMod_seal 95 = .ok (.iconst 1, 1) := by decide +kernel
theorem dMod_seal_96 : decode cMod_seal 96 = .ok (.bastore, 1) := by decide +kernel
theorem dMod_seal_97 : decode cMod_seal 97 = .ok (.iconst (-1), 1) := by decide +kernel
theorem dMod_seal_98 : decode cMod_seal 98 = .ok (.ireturn, 1) := by decide +kernel
theorem dMod_isGood_0 : decode cMod_isGood 0 = .ok (.iload_n 0, 1) := by decide +kernel
theorem dMod_isGood_1 : decode cMod_isGood 1 = .ok (.sipush 255, 3) := by decide +kernel
theorem dMod_isGood_4 : decode cMod_isGood 4 = .ok (.iand, 1) := by decide +kernel
theorem dMod_isGood_5 : decode cMod_isGood 5 = .ok (.istore_n 2, 1) := by decide +kernel
theorem dMod_isGood_6 : decode cMod_isGood 6 = .ok (.iload_n 0, 1) := by decide +kernel
theorem dMod_isGood_7 : decode cMod_isGood 7 = .ok (.bipush 8, 2) := by decide +kernel
theorem dMod_isGood_9 : decode cMod_isGood 9 = .ok (.ishr, 1) := by decide +kernel
theorem dMod_isGood_10 : decode cMod_isGood 10 = .ok (.istore_n 3, 1) := by decide +kernel
theorem dMod_isGood_11 : decode cMod_isGood 11 = .ok (.iload_n 2, 1) := by decide +kernel
theorem dMod_isGood_12 : decode cMod_isGood 12 = .ok (.lookupswitch 116 #[(3, 52), (4, 68), (16, 85), (17, 85), (27, 100)], 52) := by decide +kernel
theorem dMod_isGood_64 : decode cMod_isGood 64 = .ok (.iload_n 3, 1) := by decide +kernel
theorem dMod_isGood_65 : decode cMod_isGood 65 = .ok (.ifCond .lt 13, 3) := by decide +kernel
theorem dMod_isGood_68 : decode cMod_isGood 68 = .ok (.iload_n 3, 1) := by decide +kernel
theorem dMod_isGood_69 : decode cMod_isGood 69 = .ok (.bipush 15, 2) := by decide +kernel
theorem dMod_isGood_71 : decode cMod_isGood 71 = .ok (.if_icmp .gt 7, 3) := by decide +kernel
theorem dMod_isGood_74 : decode cMod_isGood 74 = .ok (.iconst 1, 1) := by decide +kernel
theorem dMod_isGood_75 : decode cMod_isGood 75 = .ok (.goto 4, 3) := by decide +kernel
theorem dMod_isGood_78 : decode cMod_isGood 78 = .ok (.iconst 0, 1) := by decide +kernel
theorem dMod_isGood_79 : decode cMod_isGood 79 = .ok (.ireturn, 1) := by decide +kernel
theorem dMod_isGood_80 : decode cMod_isGood 80 = .ok (.iload_n 3, 1) := by decide +kernel
theorem dMod_isGood_81 : decode cMod_isGood 81 = .ok (.iconst 1, 1) := by decide +kernel
theorem dMod_isGood_82 : decode cMod_isGood 82 = .ok (.if_icmp .lt 13, 3) := by decide +kernel
theorem dMod_isGood_85 : decode cMod_isGood 85 = .ok (.iload_n 3, 1) := by decide +kernel
theorem dMod_isGood_86 : decode cMod_isGood 86 = .ok (.bipush 15, 2) := by decide +kernel
theorem dMod_isGood_88 : decode cMod_isGood 88 = .ok (.if_icmp .gt 7, 3) := by decide +kernel
theorem dMod_isGood_91 : decode cMod_isGood 91 = .ok (.iconst 1, 1) := by decide +kernel
theorem dMod_isGood_92 : decode cMod_isGood 92 = .ok (.goto 4, 3) := by decide +kernel
theorem dMod_isGood_95 : decode cMod_isGood 95 = .ok (.iconst 0, 1) := by decide +kernel
theorem dMod_isGood_96 : decode cMod_isGood 96 = .ok (.ireturn, 1) := by decide +kernel
theorem dMod_isGood_97 : decode cMod_isGood 97 = .ok (.iload_n 3, 1) := by decide +kernel
theorem dMod_isGood_98 : decode cMod_isGood 98 = .ok (.ifCond .lt 12, 3) := by decide +kernel
theorem dMod_isGood_101 : decode cMod_isGood 101 = .ok (.iload_n 3, 1) := by decide +kernel
theorem dMod_isGood_102 : decode cMod_isGood 102 = .ok (.iload_n 1, 1) := by decide +kernel
theorem dMod_isGood_103 : decode cMod_isGood 103 = .ok (.if_icmp .gt 7, 3) := by decide +kernel
theorem dMod_isGood_106 : decode cMod_isGood 106 = .ok (.iconst 1, 1) := by decide +kernel
theorem dMod_isGood_107 : decode cMod_isGood 107 = .ok (.goto 4, 3) := by decide +kernel
theorem dMod_isGood_110 : decode cMod_isGood 110 = .ok (.iconst 0, 1) := by decide +kernel
theorem dMod_isGood_111 : decode cMod_isGood 111 = .ok (.ireturn, 1) := by decide +kernel
theorem dMod_isGood_112 : decode cMod_isGood 112 = .ok (.iload_n 3, 1) := by decide +kernel
theorem dMod_isGood_113 : decode cMod_isGood 113 = .ok (.ifCond .lt 13, 3) := by decide +kernel
theorem dMod_isGood_116 : decode cMod_isGood 116 = .ok (.iload_n 3, 1) := by decide +kernel
theorem dMod_isGood_117 : decode cMod_isGood 117 = .ok (.bipush 8, 2) := by decide +kernel
theorem dMod_isGood_119 : decode cMod_isGood 119 = .ok (.if_icmp .gt 7, 3) := by decide +kernel
theorem dMod_isGood_122 : decode cMod_isGood 122 = .ok (.iconst 1, 1) := by decide +kernel
theorem dMod_isGood_123 : decode cMod_isGood 123 = .ok (.goto 4, 3) := by decide +kernel
theorem dMod_isGood_126 : decode cMod_isGood 126 = .ok (.iconst 0, 1) := by decide +kernel
theorem dMod_isGood_127 : decode cMod_isGood 127 = .ok (.ireturn, 1) := by decide +kernel
theorem dMod_isGood_128 : decode cMod_isGood 128 = .ok (.iload_n 2, 1) := by decide +kernel
theorem dMod_isGood_129 : decode cMod_isGood 129 = .ok (.bipush 30, 2) := by decide +kernel
theorem dMod_isGood_131 : decode cMod_isGood 131 = .ok (.if_icmp .ge 7, 3) := by decide +kernel
theorem dMod_isGood_134 : decode cMod_isGood 134 = .ok (.iconst 1, 1) := by decide +kernel
theorem dMod_isGood_135 : decode cMod_isGood 135 = .ok (.goto 4, 3) := by decide +kernel
theorem dMod_isGood_138 : decode cMod_isGood 138 = .ok (.iconst 0, 1) := by decide +kernel
theorem dMod_isGood_139 : decode cMod_isGood 139 = .ok (.ireturn, 1) := by decide +kernel
theorem dMod_argument_0 : decode cMod_argument 0 = .ok (.aload_n 0, 1) := by decide +kernel
theorem dMod_argument_1 : decode cMod_argument 1 = .ok (.iconst 0, 1) := by decide +kernel
theorem dMod_argument_2 : decode cMod_argument 2 = .ok (.putfield 83, 3) := by decide +kernel
theorem dMod_argument_5 : decode cMod_argument 5 = .ok (.aload_n 0, 1) := by decide +kernel
theorem dMod_argument_6 : decode cMod_argument 6 = .ok (.getfield 104, 3) := by decide +kernel
theorem dMod_argument_9 : decode cMod_argument 9 = .ok (.bipush 8, 2) := by decide +kernel
theorem dMod_argument_11 : decode cMod_argument 11 = .ok (.if_icmp .ne 5, 3) := by decide +kernel
theorem dMod_argument_14 : decode cMod_argument 14 = .ok (.iconst (-1), 1) := by decide +kernel
theorem dMod_argument_15 : decode cMod_argument 15 = .ok (.ireturn, 1) := by decide +kernel
theorem dMod_argument_16 : decode cMod_argument 16 = .ok (.aload_n 0, 1) := by decide +kernel
theorem dMod_argument_17 : decode cMod_argument 17 = .ok (.getfield 80, 3) := by decide +kernel
theorem dMod_argument_20 : decode cMod_argument 20 = .ok (.aload_n 0, 1) := by decide +kernel
theorem dMod_argument_21 : decode cMod_argument 21 = .ok (.getfield 104, 3) := by decide +kernel
theorem dMod_argument_24 : decode cMod_argument 24 = .ok (.iload_n 1, 1) := by decide +kernel
theorem dMod_argument_25 : decode cMod_argument 25 = .ok (.iastore, 1) := by decide +kernel
theorem dMod_argument_26 : decode cMod_argument 26 = .ok (.aload_n 0, 1) := by decide +kernel
theorem dMod_argument_27 : decode cMod_argument 27 = .ok (.dup, 1) := by decide +kernel
theorem dMod_argument_28 : decode cMod_argument 28 = .ok (.getfield 104, 3) := by decide +kernel
theorem dMod_argument_31 : decode cMod_argument 31 = .ok (.iconst 1, 1) := by decide +kernel
theorem dMod_argument_32 : decode cMod_argument 32 = .ok (.iadd, 1) := by decide +kernel
theorem dMod_argument_33 : decode cMod_argument 33 = .ok (.putfield 104, 3) := by decide +kernel
theorem dMod_argument_36 : decode cMod_argument 36 = .ok (.aload_n 0, 1) := by decide +kernel
theorem dMod_argument_37 : decode cMod_argument 37 = .ok (.getfield 104, 3) := by decide +kernel
theorem dMod_argument_40 : decode cMod_argument 40 = .ok (.ireturn, 1) := by decide +kernel
theorem dMod_balance_0 : decode cMod_balance 0 = .ok (.aload_n 0, 1) := by decide +kernel
theorem dMod_balance_1 : decode cMod_balance 1 = .ok (.aload_n 0, 1) := by decide +kernel
theorem dMod_balance_2 : decode cMod_balance 2 = .ok (.iload_n 1, 1) := by decide +kernel
theorem dMod_balance_3 : decode cMod_balance 3 = .ok (.invokevirtual 96, 3) := by decide +kernel
theorem dMod_balance_6 : decode cMod_balance 6 = .ok (.ifCond .eq 7, 3) := by decide +kernel
theorem dMod_balance_9 : decode cMod_balance 9 = .ok (.iconst 1, 1) := by decide +kernel
theorem dMod_balance_10 : decode cMod_balance 10 = .ok (.goto 4, 3) := by decide +kernel
theorem dMod_balance_13 : decode cMod_balance 13 = .ok (.iconst 0, 1) := by decide +kernel
theorem dMod_balance_14 : decode cMod_balance 14 = .ok (.putfield 83, 3) := by decide +kernel
theorem dMod_balance_17 : decode cMod_balance 17 = .ok (.aload_n 0, 1) := by decide +kernel
theorem dMod_balance_18 : decode cMod_balance 18 = .ok (.getfield 83, 3) := by decide +kernel
theorem dMod_balance_21 : decode cMod_balance 21 = .ok (.ifCond .le 7, 3) := by decide +kernel
theorem dMod_balance_24 : decode cMod_balance 24 = .ok (.iconst 0, 1) := by decide +kernel
theorem dMod_balance_25 : decode cMod_balance 25 = .ok (.goto 9, 3) := by decide +kernel
theorem dMod_balance_28 : decode cMod_balance 28 = .ok (.aload_n 0, 1) := by decide +kernel
theorem dMod_balance_29 : decode cMod_balance 29 = .ok (.getfield 7, 3) := by decide +kernel
theorem dMod_balance_32 : decode cMod_balance 32 = .ok (.iload_n 1, 1) := by decide +kernel
theorem dMod_balance_33 : decode cMod_balance 33 = .ok (.iaload, 1) := by decide +kernel
theorem dMod_balance_34 : decode cMod_balance 34 = .ok (.ireturn, 1) := by decide +kernel
theorem dMod_keyOf_0 : decode cMod_keyOf 0 = .ok (.iconst 0, 1) := by decide +kernel
theorem dMod_keyOf_1 : decode cMod_keyOf 1 = .ok (.istore_n 3, 1) := by decide +kernel
theorem dMod_keyOf_2 : decode cMod_keyOf 2 = .ok (.iload_n 3, 1) := by decide +kernel
theorem dMod_keyOf_3 : decode cMod_keyOf 3 = .ok (.aload_n 0, 1) := by decide +kernel
theorem dMod_keyOf_4 : decode cMod_keyOf 4 = .ok (.getfield 107, 3) := by decide +kernel
theorem dMod_keyOf_7 : decode cMod_keyOf 7 = .ok (.if_icmp .ge 31, 3) := by decide +kernel
theorem dMod_keyOf_10 : decode cMod_keyOf 10 = .ok (.aload_n 0, 1) := by decide +kernel
theorem dMod_keyOf_11 : decode cMod_keyOf 11 = .ok (.getfield 23, 3) := by decide +kernel
theorem dMod_keyOf_14 : decode cMod_keyOf 14 = .ok (.iload_n 3, 1) := by decide +kernel
theorem dMod_keyOf_15 : decode cMod_keyOf 15 = .ok (.iaload, 1) := by decide +kernel
theorem dMod_keyOf_16 : decode cMod_keyOf 16 = .ok (.iload_n 1, 1) := by decide +kernel
theorem dMod_keyOf_17 : decode cMod_keyOf 17 = .ok (.if_icmp .ne 15, 3) := by decide +kernel
theorem dMod_keyOf_20 : decode cMod_keyOf 20 = .ok (.aload_n 0, 1) := by decide +kernel
theorem dMod_keyOf_21 : decode cMod_keyOf 21 = .ok (.getfield 26, 3) := by decide +kernel
theorem dMod_keyOf_24 : decode cMod_keyOf 24 = .ok (.iload_n 3, 1) := by decide +kernel
theorem dMod_keyOf_25 : decode cMod_keyOf 25 = .ok (.iaload, 1) := by decide +kernel
theorem dMod_keyOf_26 : decode cMod_keyOf 26 = .ok (.iload_n 2, 1) := by decide +kernel
theorem dMod_keyOf_27 : decode cMod_keyOf 27 = .ok (.if_icmp .ne 5, 3) := by decide +kernel
theorem dMod_keyOf_30 : decode cMod_keyOf 30 = .ok (.iload_n 3, 1) := by decide +kernel
theorem dMod_keyOf_31 : decode cMod_keyOf 31 = .ok (.ireturn, 1) := by decide +kernel
theorem dMod_keyOf_32 : decode cMod_keyOf 32 = .ok (.iinc 3 1, 3) := by decide +kernel
theorem dMod_keyOf_35 : decode cMod_keyOf 35 = .ok (.goto (-33), 3) := by decide +kernel
theorem dMod_keyOf_38 : decode cMod_keyOf 38 = .ok (.iconst (-1), 1) := by decide +kernel
theorem dMod_keyOf_39 : decode cMod_keyOf 39 = .ok (.ireturn, 1) := by decide +kernel
theorem gw19 : .selects RMod yMod_noAccount yMod_noAccount ∈ xG := List.mem_filter.mpr ⟨List.mem_of_getElem? (i := 19) (by decide +kernel), by decide +kernel⟩
theorem gw43 : .initialized RMod ∈ xG := List.mem_filter.mpr ⟨List.mem_of_getElem? (i := 43) (by decide +kernel), by decide +kernel⟩
theorem gw644 : .fieldLink RMod 83 "CallLedgerModel" "thrown" "I" ∈ xG := List.mem_filter.mpr ⟨List.mem_of_getElem? (i := 644) (by decide +kernel), by decide +kernel⟩
theorem gw645 : .fieldLink RMod 87 "CallLedgerModel" "accounts" "I" ∈ xG := List.mem_filter.mpr ⟨List.mem_of_getElem? (i := 645) (by decide +kernel), by decide +kernel⟩
theorem gw646 : .fieldLink RMod 7 "CallLedgerModel" "balances" "[I" ∈ xG := List.mem_filter.mpr ⟨List.mem_of_getElem? (i := 646) (by decide +kernel), by decide +kernel⟩
theorem gw647 : .fieldLink RMod 13 "CallLedgerModel" "codes" "[I" ∈ xG := List.mem_filter.mpr ⟨List.mem_of_getElem? (i := 647) (by decide +kernel), by decide +kernel⟩
theorem gw648 : .fieldLink RMod 16 "CallLedgerModel" "lengths" "[I" ∈ xG := List.mem_filter.mpr ⟨List.mem_of_getElem? (i := 648) (by decide +kernel), by decide +kernel⟩
theorem gw649 : .fieldLink RMod 19 "CallLedgerModel" "sealed0" "[Z" ∈ xG := List.mem_filter.mpr ⟨List.mem_of_getElem? (i := 649) (by decide +kernel), by decide +kernel⟩
theorem gw650 : .fieldLink RMod 23 "CallLedgerModel" "keyAccounts" "[I" ∈ xG := List.mem_filter.mpr ⟨List.mem_of_getElem? (i := 650) (by decide +kernel), by decide +kernel⟩
theorem gw651 : .fieldLink RMod 26 "CallLedgerModel" "keyNames" "[I" ∈ xG := List.mem_filter.mpr ⟨List.mem_of_getElem? (i := 651) (by decide +kernel), by decide +kernel⟩
theorem gw653 : .fieldLink RMod 107 "CallLedgerModel" "keys" "I" ∈ xG := List.mem_filter.mpr ⟨List.mem_of_getElem? (i := 653) (by decide +kernel), by decide +kernel⟩
theorem gw655 : .fieldLink RMod 117 "CallLedgerModel" "logged" "I" ∈ xG := List.mem_filter.mpr ⟨List.mem_of_getElem? (i := 655) (by decide +kernel), by decide +kernel⟩
theorem gw672 : .fieldLink RMod 80 "CallLedgerModel" "arguments" "[I" ∈ xG := List.mem_filter.mpr ⟨List.mem_of_getElem? (i := 672) (by decide +kernel), by decide +kernel⟩
theorem gw673 : .fieldLink RMod 104 "CallLedgerModel" "argumentCount" "I" ∈ xG := List.mem_filter.mpr ⟨List.mem_of_getElem? (i := 673) (by decide +kernel), by decide +kernel⟩
theorem gw675 : .fieldLink RMod 123 "CallLedgerModel" "result" "I" ∈ xG := List.mem_filter.mpr ⟨List.mem_of_getElem? (i := 675) (by decide +kernel), by decide +kernel⟩
theorem gw677 : .fieldLink RMod 120 "CallLedgerModel" "used" "I" ∈ xG := List.mem_filter.mpr ⟨List.mem_of_getElem? (i := 677) (by decide +kernel), by decide +kernel⟩
theorem gw752 : .instanceMethod yMod_supply ∈ xG := List.mem_filter.mpr ⟨List.mem_of_getElem? (i := 752) (by decide +kernel), by decide +kernel⟩
theorem gw753 : .selects RMod yMod_supply yMod_supply ∈ xG := List.mem_filter.mpr ⟨List.mem_of_getElem? (i := 753) (by decide +kernel), by decide +kernel⟩
theorem gw754 : .code yMod_supply cMod_supply 3 (some .int) ∈ xG := List.mem_filter.mpr ⟨List.mem_of_getElem? (i := 754) (by decide +kernel), by decide +kernel⟩
theorem gw759 : .methodLink RMod 90 yMod_supply ∈ xG := List.mem_filter.mpr ⟨List.mem_of_getElem? (i := 759) (by decide +kernel), by decide +kernel⟩
theorem gw765 : .methodLink RMod 96 yMod_noAccount ∈ xG := List.mem_filter.mpr ⟨List.mem_of_getElem? (i := 765) (by decide +kernel), by decide +kernel⟩
theorem gw767 : .instanceMethod yMod_noAccount ∈ xG := List.mem_filter.mpr ⟨List.mem_of_getElem? (i := 767) (by decide +kernel), by decide +kernel⟩
theorem gw768 : .code yMod_noAccount cMod_noAccount 2 (some .boolean) ∈ xG := List.mem_filter.mpr ⟨List.mem_of_getElem? (i := 768) (by decide +kernel), by decide +kernel⟩
theorem gw773 : .methodLink RMod 100 yMod_isGood ∈ xG := List.mem_filter.mpr ⟨List.mem_of_getElem? (i := 773) (by decide +kernel), by decide +kernel⟩
theorem gw774 : .static yMod_isGood ∈ xG := List.mem_filter.mpr ⟨List.mem_of_getElem? (i := 774) (by decide +kernel), by decide +kernel⟩
theorem gw775 : .code yMod_isGood cMod_isGood 4 (some .boolean) ∈ xG := List.mem_filter.mpr ⟨List.mem_of_getElem? (i := 775) (by decide +kernel), by decide +kernel⟩
set_option maxHeartbeats 4000000 in
set_option maxRecDepth 100000 in
theorem kM_thrown (l : Launch) (dC : Nat → ClassId) (dI : Nat → Nat → Nat) (kI kJ kZ : ClassId) (m0 : Nat) (b1 : Nat) (b2 : Nat) (b3 : Nat) (b4 : Nat) (b5 : Nat) (b6 : Nat) (b7 : Nat) (b8 : Nat) (b9 : Nat) (b10 : Nat) (b11 : Nat) (b12 : Nat) (b13 : Nat) (b14 : Nat) (b15 : Nat) (b16 : Nat) (b17 : Nat) (b18 : Nat) (b19 : Nat) (b20 : Nat) (b21 : Nat) (b22 : Nat) (b23 : Nat) (b24 : Nat) (nA : Nat) (kn : Nat) (ln : Nat) (an : Nat) (f0 : Int32) (f2 : Int32) (f3 : Int32) (f4 : Int32) (f5 : Int32) (f1 : Int32)  :
    XM stX l yMod_thrown wMod_thrown { frames := 0, cells := 0, slots := 0, locals := 0 } (dC, dI) xCl (x_T kI kJ kZ) [(m0, .inr (6, [.int f0, .int (nI nA), .ref b1, .ref b2, .ref b3, .ref b4, .ref b5, .ref b6, .ref b7, .int (nI kn), .ref b8, .int (nI ln), .ref b9, .ref b10, .ref b11, .ref b12, .ref b13, .ref b14, .int f1, .ref b15, .ref b16, .ref b17, .ref b18, .ref b19, .ref b20, .ref b21, .ref b22, .ref b23, .ref b24, .int (nI an), .int f2, .int f3, .int f4, .int f5]))] [.ref m0] 0 0 x_eI (fun (r : Int32) (u : Unit) => r = f0) (fun (u : Unit) => [(m0, .inr (6, [.int f0, .int (nI nA), .ref b1, .ref b2, .ref b3, .ref b4, .ref b5, .ref b6, .ref b7, .int (nI kn), .ref b8, .int (nI ln), .ref b9, .ref b10, .ref b11, .ref b12, .ref b13, .ref b14, .int f1, .ref b15, .ref b16, .ref b17, .ref b18, .ref b19, .ref b20, .ref b21, .ref b22, .ref b23, .ref b24, .int (nI an), .int f2, .int f3, .int f4, .int f5]))]) := by
  refine XM.ofI (cc := cMod_thrown) (maxL := 1) (by decide) rfl (Nat.le_of_ble_eq_true rfl) ?_
  intro p e s m below meth c A Q hx hb hr hml hown hts hlocks hin hA hK hP hD hX hS ls hl hret
  have hl : lv_has ls 1 [(0, .ref m0)] := hl
  refine lv_aload_n hx hb dMod_thrown_0 rfl (lv_at hl 0 rfl) ?_
  refine va_get (D := (dC, dI)) (ci := 6) (v := .int f0) (C := RMod) (T := TMod) (N := 34) hx hb hts (fun w h => List.mem_cons_of_mem _ (layMod w h)) hown hK hP 0 rfl rfl 0 (by decide) (hts (.fieldLink RMod 83 "CallLedgerModel" "thrown" "I") (List.mem_cons_of_mem _ gw644)) (fun _ h9 => h9) rfl dMod_thrown_1 ?_
  exact hret f0 (()) _ _ _ (rfl) (hP.sub [0] rfl) (hD.sub [0] (by decide) rfl) hS dMod_thrown_4

set_option maxHeartbeats 4000000 in
set_option maxRecDepth 100000 in
theorem kM_keys (l : Launch) (dC : Nat → ClassId) (dI : Nat → Nat → Nat) (kI kJ kZ : ClassId) (m0 : Nat) (b1 : Nat) (b2 : Nat) (b3 : Nat) (b4 : Nat) (b5 : Nat) (b6 : Nat) (b7 : Nat) (b8 : Nat) (b9 : Nat) (b10 : Nat) (b11 : Nat) (b12 : Nat) (b13 : Nat) (b14 : Nat) (b15 : Nat) (b16 : Nat) (b17 : Nat) (b18 : Nat) (b19 : Nat) (b20 : Nat) (b21 : Nat) (b22 : Nat) (b23 : Nat) (b24 : Nat) (nA : Nat) (kn : Nat) (ln : Nat) (an : Nat) (f0 : Int32) (f2 : Int32) (f3 : Int32) (f4 : Int32) (f5 : Int32) (f1 : Int32)  :
    XM stX l yMod_keys wMod_keys { frames := 0, cells := 0, slots := 0, locals := 0 } (dC, dI) xCl (x_T kI kJ kZ) [(m0, .inr (6, [.int f0, .int (nI nA), .ref b1, .ref b2, .ref b3, .ref b4, .ref b5, .ref b6, .ref b7, .int (nI kn), .ref b8, .int (nI ln), .ref b9, .ref b10, .ref b11, .ref b12, .ref b13, .ref b14, .int f1, .ref b15, .ref b16, .ref b17, .ref b18, .ref b19, .ref b20, .ref b21, .ref b22, .ref b23, .ref b24, .int (nI an), .int f2, .int f3, .int f4, .int f5]))] [.ref m0] 0 0 x_eI (fun (r : Int32) (u : Unit) => r = nI kn) (fun (u : Unit) => [(m0, .inr (6, [.int 0, .int (nI nA), .ref b1, .ref b2, .ref b3, .ref b4, .ref b5, .ref b6, .ref b7, .int (nI kn), .ref b8, .int (nI ln), .ref b9, .ref b10, .ref b11, .ref b12, .ref b13, .ref b14, .int f1, .ref b15, .ref b16, .ref b17, .ref b18, .ref b19, .ref b20, .ref b21, .ref b22, .ref b23, .ref b24, .int (nI an), .int f2, .int f3, .int f4, .int f5]))]) := by
  refine XM.ofI (cc := cMod_keys) (maxL := 1) (by decide) rfl (Nat.le_of_ble_eq_true rfl) ?_
  intro p e s m below meth c A Q hx hb hr hml hown hts hlocks hin hA hK hP hD hX hS ls hl hret
  have hl : lv_has ls 1 [(0, .ref m0)] := hl
  refine lv_aload_n hx hb dMod_keys_0 rfl (lv_at hl 0 rfl) ?_
  refine lv_iconst (v := 0) hx hb dMod_keys_1 (by decide) ?_
  refine va_put (D := (dC, dI)) (ci := 6) (v := .int 0) (ty := .int) (C := RMod) (T := TMod) (N := 34) hx hb hts (fun w h => List.mem_cons_of_mem _ (layMod w h)) tyMod tykMod nmMod hown hK hP hD hS 0 rfl rfl 0 (by decide) (hts (.fieldLink RMod 83 "CallLedgerModel" "thrown" "I") (List.mem_cons_of_mem _ gw644)) (fun _ h9 => h9) rfl (by decide +kernel) rfl rfl (Nat.le_of_ble_eq_true rfl) dMod_keys_2 (fun H locs hP hD hS => ?_)
  have hP : va_P (dC, dI) xCl [(m0, .inr (6, [.int 0, .int (nI nA), .ref b1, .ref b2, .ref b3, .ref b4, .ref b5, .ref b6, .ref b7, .int (nI kn), .ref b8, .int (nI ln), .ref b9, .ref b10, .ref b11, .ref b12, .ref b13, .ref b14, .int f1, .ref b15, .ref b16, .ref b17, .ref b18, .ref b19, .ref b20, .ref b21, .ref b22, .ref b23, .ref b24, .int (nI an), .int f2, .int f3, .int f4, .int f5]))] H := hP
  have hD : va_D A [(m0, .inr (6, [.int 0, .int (nI nA), .ref b1, .ref b2, .ref b3, .ref b4, .ref b5, .ref b6, .ref b7, .int (nI kn), .ref b8, .int (nI ln), .ref b9, .ref b10, .ref b11, .ref b12, .ref b13, .ref b14, .int f1, .ref b15, .ref b16, .ref b17, .ref b18, .ref b19, .ref b20, .ref b21, .ref b22, .ref b23, .ref b24, .int (nI an), .int f2, .int f3, .int f4, .int f5]))] := hD
  refine lv_aload_n hx hb dMod_keys_5 rfl (lv_at hl 0 rfl) ?_
  refine va_get (D := (dC, dI)) (ci := 6) (v := .int (nI kn)) (C := RMod) (T := TMod) (N := 34) hx hb hts (fun w h => List.mem_cons_of_mem _ (layMod w h)) hown hK hP 0 rfl rfl 9 (by decide) (hts (.fieldLink RMod 107 "CallLedgerModel" "keys" "I") (List.mem_cons_of_mem _ gw653)) (fun _ h9 => h9) rfl dMod_keys_6 ?_
  exact hret (nI kn) (()) _ _ _ (rfl) (hP.sub [0] rfl) (hD.sub [0] (by decide) rfl) hS dMod_keys_9

set_option maxHeartbeats 4000000 in
set_option maxRecDepth 100000 in
theorem kM_logged (l : Launch) (dC : Nat → ClassId) (dI : Nat → Nat → Nat) (kI kJ kZ : ClassId) (m0 : Nat) (b1 : Nat) (b2 : Nat) (b3 : Nat) (b4 : Nat) (b5 : Nat) (b6 : Nat) (b7 : Nat) (b8 : Nat) (b9 : Nat) (b10 : Nat) (b11 : Nat) (b12 : Nat) (b13 : Nat) (b14 : Nat) (b15 : Nat) (b16 : Nat) (b17 : Nat) (b18 : Nat) (b19 : Nat) (b20 : Nat) (b21 : Nat) (b22 : Nat) (b23 : Nat) (b24 : Nat) (nA : Nat) (kn : Nat) (ln : Nat) (an : Nat) (f0 : Int32) (f2 : Int32) (f3 : Int32) (f4 : Int32) (f5 : Int32) (f1 : Int32)  :
    XM stX l yMod_logged wMod_logged { frames := 0, cells := 0, slots := 0, locals := 0 } (dC, dI) xCl (x_T kI kJ kZ) [(m0, .inr (6, [.int f0, .int (nI nA), .ref b1, .ref b2, .ref b3, .ref b4, .ref b5, .ref b6, .ref b7, .int (nI kn), .ref b8, .int (nI ln), .ref b9, .ref b10, .ref b11, .ref b12, .ref b13, .ref b14, .int f1, .ref b15, .ref b16, .ref b17, .ref b18, .ref b19, .ref b20, .ref b21, .ref b22, .ref b23, .ref b24, .int (nI an), .int f2, .int f3, .int f4, .int f5]))] [.ref m0] 0 0 x_eI (fun (r : Int32) (u : Unit) => r = nI ln) (fun (u : Unit) => [(m0, .inr (6, [.int 0, .int (nI nA), .ref b1, .ref b2, .ref b3, .ref b4, .ref b5, .ref b6, .ref b7, .int (nI kn), .ref b8, .int (nI ln), .ref b9, .ref b10, .ref b11, .ref b12, .ref b13, .ref b14, .int f1, .ref b15, .ref b16, .ref b17, .ref b18, .ref b19, .ref b20, .ref b21, .ref b22, .ref b23, .ref b24, .int (nI an), .int f2, .int f3, .int f4, .int f5]))]) := by
  refine XM.ofI (cc := cMod_logged) (maxL := 1) (by decide) rfl (Nat.le_of_ble_eq_true rfl) ?_
  intro p e s m below meth c A Q hx hb hr hml hown hts hlocks hin hA hK hP hD hX hS ls hl hret
  have hl : lv_has ls 1 [(0, .ref m0)] := hl
  refine lv_aload_n hx hb dMod_logged_0 rfl (lv_at hl 0 rfl) ?_
  refine lv_iconst (v := 0) hx hb dMod_logged_1 (by decide) ?_
  refine va_put (D := (dC, dI)) (ci := 6) (v := .int 0) (ty := .int) (C := RMod) (T := TMod) (N := 34) hx hb hts (fun w h => List.mem_cons_of_mem _ (layMod w h)) tyMod tykMod nmMod hown hK hP hD hS 0 rfl rfl 0 (by decide) (hts (.fieldLink RMod 83 "CallLedgerModel" "thrown" "I") (List.mem_cons_of_mem _ gw644)) (fun _ h9 => h9) rfl (by decide +kernel) rfl rfl (Nat.le_of_ble_eq_true rfl) dMod_logged_2 (fun H locs hP hD hS => ?_)
  have hP : va_P (dC, dI) xCl [(m0, .inr (6, [.int 0, .int (nI nA), .ref b1, .ref b2, .ref b3, .ref b4, .ref b5, .ref b6, .ref b7, .int (nI kn), .ref b8, .int (nI ln), .ref b9, .ref b10, .ref b11, .ref b12, .ref b13, .ref b14, .int f1, .ref b15, .ref b16, .ref b17, .ref b18, .ref b19, .ref b20, .ref b21, .ref b22, .ref b23, .ref b24, .int (nI an), .int f2, .int f3, .int f4, .int f5]))] H := hP
  have hD : va_D A [(m0, .inr (6, [.int 0, .int (nI nA), .ref b1, .ref b2, .ref b3, .ref b4, .ref b5, .ref b6, .ref b7, .int (nI kn), .ref b8, .int (nI ln), .ref b9, .ref b10, .ref b11, .ref b12, .ref b13, .ref b14, .int f1, .ref b15, .ref b16, .ref b17, .ref b18, .ref b19, .ref b20, .ref b21, .ref b22, .ref b23, .ref b24, .int (nI an), .int f2, .int f3, .int f4, .int f5]))] := hD
  refine lv_aload_n hx hb dMod_logged_5 rfl (lv_at hl 0 rfl) ?_
  refine va_get (D := (dC, dI)) (ci := 6) (v := .int (nI ln)) (C := RMod) (T := TMod) (N := 34) hx hb hts (fun w h => List.mem_cons_of_mem _ (layMod w h)) hown hK hP 0 rfl rfl 11 (by decide) (hts (.fieldLink RMod 117 "CallLedgerModel" "logged" "I") (List.mem_cons_of_mem _ gw655)) (fun _ h9 => h9) rfl dMod_logged_6 ?_
  exact hret (nI ln) (()) _ _ _ (rfl) (hP.sub [0] rfl) (hD.sub [0] (by decide) rfl) hS dMod_logged_9

set_option maxHeartbeats 4000000 in
set_option maxRecDepth 100000 in
theorem kM_used (l : Launch) (dC : Nat → ClassId) (dI : Nat → Nat → Nat) (kI kJ kZ : ClassId) (m0 : Nat) (b1 : Nat) (b2 : Nat) (b3 : Nat) (b4 : Nat) (b5 : Nat) (b6 : Nat) (b7 : Nat) (b8 : Nat) (b9 : Nat) (b10 : Nat) (b11 : Nat) (b12 : Nat) (b13 : Nat) (b14 : Nat) (b15 : Nat) (b16 : Nat) (b17 : Nat) (b18 : Nat) (b19 : Nat) (b20 : Nat) (b21 : Nat) (b22 : Nat) (b23 : Nat) (b24 : Nat) (nA : Nat) (kn : Nat) (ln : Nat) (an : Nat) (f0 : Int32) (f2 : Int32) (f3 : Int32) (f4 : Int32) (f5 : Int32) (f1 : Int32)  :
    XM stX l yMod_used wMod_used { frames := 0, cells := 0, slots := 0, locals := 0 } (dC, dI) xCl (x_T kI kJ kZ) [(m0, .inr (6, [.int f0, .int (nI nA), .ref b1, .ref b2, .ref b3, .ref b4, .ref b5, .ref b6, .ref b7, .int (nI kn), .ref b8, .int (nI ln), .ref b9, .ref b10, .ref b11, .ref b12, .ref b13, .ref b14, .int f1, .ref b15, .ref b16, .ref b17, .ref b18, .ref b19, .ref b20, .ref b21, .ref b22, .ref b23, .ref b24, .int (nI an), .int f2, .int f3, .int f4, .int f5]))] [.ref m0] 0 0 x_eI (fun (r : Int32) (u : Unit) => r = f5) (fun (u : Unit) => [(m0, .inr (6, [.int 0, .int (nI nA), .ref b1, .ref b2, .ref b3, .ref b4, .ref b5, .ref b6, .ref b7, .int (nI kn), .ref b8, .int (nI ln), .ref b9, .ref b10, .ref b11, .ref b12, .ref b13, .ref b14, .int f1, .ref b15, .ref b16, .ref b17, .ref b18, .ref b19, .ref b20, .ref b21, .ref b22, .ref b23, .ref b24, .int (nI an), .int f2, .int f3, .int f4, .int f5]))]) := by
  refine XM.ofI (cc := cMod_used) (maxL := 1) (by decide) rfl (Nat.le_of_ble_eq_true rfl) ?_
  intro p e s m below meth c A Q hx hb hr hml hown hts hlocks hin hA hK hP hD hX hS ls hl hret
  have hl : lv_has ls 1 [(0, .ref m0)] := hl
  refine lv_aload_n hx hb dMod_used_0 rfl (lv_at hl 0 rfl) ?_
  refine lv_iconst (v := 0) hx hb dMod_used_1 (by decide) ?_
  refine va_put (D := (dC, dI)) (ci := 6) (v := .int 0) (ty := .int) (C := RMod) (T := TMod) (N := 34) hx hb hts (fun w h => List.mem_cons_of_mem _ (layMod w h)) tyMod tykMod nmMod hown hK hP hD hS 0 rfl rfl 0 (by decide) (hts (.fieldLink RMod 83 "CallLedgerModel" "thrown" "I") (List.mem_cons_of_mem _ gw644)) (fun _ h9 => h9) rfl (by decide +kernel) rfl rfl (Nat.le_of_ble_eq_true rfl) dMod_used_2 (fun H locs hP hD hS => ?_)
  have hP : va_P (dC, dI) xCl [(m0, .inr (6, [.int 0, .int (nI nA), .ref b1, .ref b2, .ref b3, .ref b4, .ref b5, .ref b6, .ref b7, .int (nI kn), .ref b8, .int (nI ln), .ref b9, .ref b10, .ref b11, .ref b12, .ref b13, .ref b14, .int f1, .ref b15, .ref b16, .ref b17, .ref b18, .ref b19, .ref b20, .ref b21, .ref b22, .ref b23, .ref b24, .int (nI an), .int f2, .int f3, .int f4, .int f5]))] H := hP
  have hD : va_D A [(m0, .inr (6, [.int 0, .int (nI nA), .ref b1, .ref b2, .ref b3, .ref b4, .ref b5, .ref b6, .ref b7, .int (nI kn), .ref b8, .int (nI ln), .ref b9, .ref b10, .ref b11, .ref b12, .ref b13, .ref b14, .int f1, .ref b15, .ref b16, .ref b17, .ref b18, .ref b19, .ref b20, .ref b21, .ref b22, .ref b23, .ref b24, .int (nI an), .int f2, .int f3, .int f4, .int f5]))] := hD
  refine lv_aload_n hx hb dMod_used_5 rfl (lv_at hl 0 rfl) ?_
  refine va_get (D := (dC, dI)) (ci := 6) (v := .int f5) (C := RMod) (T := TMod) (N := 34) hx hb hts (fun w h => List.mem_cons_of_mem _ (layMod w h)) hown hK hP 0 rfl rfl 33 (by decide) (hts (.fieldLink RMod 120 "CallLedgerModel" "used" "I") (List.mem_cons_of_mem _ gw677)) (fun _ h9 => h9) rfl dMod_used_6 ?_
  exact hret f5 (()) _ _ _ (rfl) (hP.sub [0] rfl) (hD.sub [0] (by decide) rfl) hS dMod_used_9

set_option maxHeartbeats 4000000 in
set_option maxRecDepth 100000 in
theorem kM_result (l : Launch) (dC : Nat → ClassId) (dI : Nat → Nat → Nat) (kI kJ kZ : ClassId) (m0 : Nat) (b1 : Nat) (b2 : Nat) (b3 : Nat) (b4 : Nat) (b5 : Nat) (b6 : Nat) (b7 : Nat) (b8 : Nat) (b9 : Nat) (b10 : Nat) (b11 : Nat) (b12 : Nat) (b13 : Nat) (b14 : Nat) (b15 : Nat) (b16 : Nat) (b17 : Nat) (b18 : Nat) (b19 : Nat) (b20 : Nat) (b21 : Nat) (b22 : Nat) (b23 : Nat) (b24 : Nat) (nA : Nat) (kn : Nat) (ln : Nat) (an : Nat) (f0 : Int32) (f2 : Int32) (f3 : Int32) (f4 : Int32) (f5 : Int32) (f1 : Int32)  :
    XM stX l yMod_result wMod_result { frames := 0, cells := 0, slots := 0, locals := 0 } (dC, dI) xCl (x_T kI kJ kZ) [(m0, .inr (6, [.int f0, .int (nI nA), .ref b1, .ref b2, .ref b3, .ref b4, .ref b5, .ref b6, .ref b7, .int (nI kn), .ref b8, .int (nI ln), .ref b9, .ref b10, .ref b11, .ref b12, .ref b13, .ref b14, .int f1, .ref b15, .ref b16, .ref b17, .ref b18, .ref b19, .ref b20, .ref b21, .ref b22, .ref b23, .ref b24, .int (nI an), .int f2, .int f3, .int f4, .int f5]))] [.ref m0] 0 0 x_eI (fun (r : Int32) (u : Unit) => r = f3) (fun (u : Unit) => [(m0, .inr (6, [.int 0, .int (nI nA), .ref b1, .ref b2, .ref b3, .ref b4, .ref b5, .ref b6, .ref b7, .int (nI kn), .ref b8, .int (nI ln), .ref b9, .ref b10, .ref b11, .ref b12, .ref b13, .ref b14, .int f1, .ref b15, .ref b16, .ref b17, .ref b18, .ref b19, .ref b20, .ref b21, .ref b22, .ref b23, .ref b24, .int (nI an), .int f2, .int f3, .int f4, .int f5]))]) := by
  refine XM.ofI (cc := cMod_result) (maxL := 1) (by decide) rfl (Nat.le_of_ble_eq_true rfl) ?_
  intro p e s m below meth c A Q hx hb hr hml hown hts hlocks hin hA hK hP hD hX hS ls hl hret
  have hl : lv_has ls 1 [(0, .ref m0)] := hl
  refine lv_aload_n hx hb dMod_result_0 rfl (lv_at hl 0 rfl) ?_
  refine lv_iconst (v := 0) hx hb dMod_result_1 (by decide) ?_
  refine va_put (D := (dC, dI)) (ci := 6) (v := .int 0) (ty := .int) (C := RMod) (T := TMod) (N := 34) hx hb hts (fun w h => List.mem_cons_of_mem _ (layMod w h)) tyMod tykMod nmMod hown hK hP hD hS 0 rfl rfl 0 (by decide) (hts (.fieldLink RMod 83 "CallLedgerModel" "thrown" "I") (List.mem_cons_of_mem _ gw644)) (fun _ h9 => h9) rfl (by decide +kernel) rfl rfl (Nat.le_of_ble_eq_true rfl) dMod_result_2 (fun H locs hP hD hS => ?_)
  have hP : va_P (dC, dI) xCl [(m0, .inr (6, [.int 0, .int (nI nA), .ref b1, .ref b2, .ref b3, .ref b4, .ref b5, .ref b6, .ref b7, .int (nI kn), .ref b8, .int (nI ln), .ref b9, .ref b10, .ref b11, .ref b12, .ref b13, .ref b14, .int f1, .ref b15, .ref b16, .ref b17, .ref b18, .ref b19, .ref b20, .ref b21, .ref b22, .ref b23, .ref b24, .int (nI an), .int f2, .int f3, .int f4, .int f5]))] H := hP
  have hD : va_D A [(m0, .inr (6, [.int 0, .int (nI nA), .ref b1, .ref b2, .ref b3, .ref b4, .ref b5, .ref b6, .ref b7, .int (nI kn), .ref b8, .int (nI ln), .ref b9, .ref b10, .ref b11, .ref b12, .ref b13, .ref b14, .int f1, .ref b15, .ref b16, .ref b17, .ref b18, .ref b19, .ref b20, .ref b21, .ref b22, .ref b23, .ref b24, .int (nI an), .int f2, .int f3, .int f4, .int f5]))] := hD
  refine lv_aload_n hx hb dMod_result_5 rfl (lv_at hl 0 rfl) ?_
  refine va_get (D := (dC, dI)) (ci := 6) (v := .int f3) (C := RMod) (T := TMod) (N := 34) hx hb hts (fun w h => List.mem_cons_of_mem _ (layMod w h)) hown hK hP 0 rfl rfl 31 (by decide) (hts (.fieldLink RMod 123 "CallLedgerModel" "result" "I") (List.mem_cons_of_mem _ gw675)) (fun _ h9 => h9) rfl dMod_result_6 ?_
  exact hret f3 (()) _ _ _ (rfl) (hP.sub [0] rfl) (hD.sub [0] (by decide) rfl) hS dMod_result_9

set_option maxHeartbeats 4000000 in
set_option maxRecDepth 100000 in
theorem kM_noAcc (l : Launch) (dC : Nat → ClassId) (dI : Nat → Nat → Nat) (kI kJ kZ : ClassId) (m0 : Nat) (b1 : Nat) (b2 : Nat) (b3 : Nat) (b4 : Nat) (b5 : Nat) (b6 : Nat) (b7 : Nat) (b8 : Nat) (b9 : Nat) (b10 : Nat) (b11 : Nat) (b12 : Nat) (b13 : Nat) (b14 : Nat) (b15 : Nat) (b16 : Nat) (b17 : Nat) (b18 : Nat) (b19 : Nat) (b20 : Nat) (b21 : Nat) (b22 : Nat) (b23 : Nat) (b24 : Nat) (nA : Nat) (kn : Nat) (ln : Nat) (an : Nat) (f0 : Int32) (f2 : Int32) (f3 : Int32) (f4 : Int32) (f5 : Int32) (f1 : Int32) (x : Int32)  :
    XM stX l yMod_noAccount wMod_noAccount { frames := 0, cells := 0, slots := 0, locals := 0 } (dC, dI) xCl (x_T kI kJ kZ) [(m0, .inr (6, [.int f0, .int (nI nA), .ref b1, .ref b2, .ref b3, .ref b4, .ref b5, .ref b6, .ref b7, .int (nI kn), .ref b8, .int (nI ln), .ref b9, .ref b10, .ref b11, .ref b12, .ref b13, .ref b14, .int f1, .ref b15, .ref b16, .ref b17, .ref b18, .ref b19, .ref b20, .ref b21, .ref b22, .ref b23, .ref b24, .int (nI an), .int f2, .int f3, .int f4, .int f5]))] [.ref m0, .int x] 0 0 x_eI (fun (r : Int32) (u : Unit) => r = if xHas nA x = true then 0 else 1) (fun (u : Unit) => [(m0, .inr (6, [.int f0, .int (nI nA), .ref b1, .ref b2, .ref b3, .ref b4, .ref b5, .ref b6, .ref b7, .int (nI kn), .ref b8, .int (nI ln), .ref b9, .ref b10, .ref b11, .ref b12, .ref b13, .ref b14, .int f1, .ref b15, .ref b16, .ref b17, .ref b18, .ref b19, .ref b20, .ref b21, .ref b22, .ref b23, .ref b24, .int (nI an), .int f2, .int f3, .int f4, .int f5]))]) := by
  refine XM.ofZ (cc := cMod_noAccount) (maxL := 2) (by decide) rfl (Nat.le_of_ble_eq_true rfl) ?_
  intro p e s m below meth c A Q hx hb hr hml hown hts hlocks hin hA hK hP hD hX hS ls hl hret
  have hl : lv_has ls 2 [(0, .ref m0), (1, .int x)] := hl
  refine lv_iload_n hx hb dMod_noAccount_0 rfl (lv_at hl 1 rfl) ?_
  refine lv_if_lt (tgt := 12) hx hb dMod_noAccount_1 (by decide) (fun c1 => ?_) (fun c1 => ?_)
  · refine lv_iconst (v := 1) hx hb dMod_noAccount_12 (by decide) ?_
    refine lv_goto (tgt := 17) hx hb dMod_noAccount_13 (by decide) ?_
    exact hret 1 (())  (rfl) _ _ _ (by first | (rw [xHas_f1 c1]; rfl) | (rw [xHas_t c1 (Int32.not_le.mpr c9)]; rfl) | (rw [xHas_f2 (Int32.not_lt.mp c9)]; rfl)) (hP.sub [0] rfl) (hD.sub [0] (by decide) rfl) hS dMod_noAccount_17
  · refine lv_iload_n hx hb dMod_noAccount_4 rfl (lv_at hl 1 rfl) ?_
    refine lv_aload_n hx hb dMod_noAccount_5 rfl (lv_at hl 0 rfl) ?_
    refine va_get (D := (dC, dI)) (ci := 6) (v := .int (nI nA)) (C := RMod) (T := TMod) (N := 34) hx hb hts (fun w h => List.mem_cons_of_mem _ (layMod w h)) hown hK hP 0 rfl rfl 1 (by decide) (hts (.fieldLink RMod 87 "CallLedgerModel" "accounts" "I") (List.mem_cons_of_mem _ gw645)) (fun _ h9 => h9) rfl dMod_noAccount_6 ?_
    refine lv_icmp_lt (tgt := 16) hx hb dMod_noAccount_9 (by decide) (fun c9 => ?_) (fun c9 => ?_)
    · refine lv_iconst (v := 0) hx hb dMod_noAccount_16 (by decide) ?_
      exact hret 0 (())  (rfl) _ _ _ (by first | (rw [xHas_f1 c1]; rfl) | (rw [xHas_t c1 (Int32.not_le.mpr c9)]; rfl) | (rw [xHas_f2 (Int32.not_lt.mp c9)]; rfl)) (hP.sub [0] rfl) (hD.sub [0] (by decide) rfl) hS dMod_noAccount_17
    · refine lv_iconst (v := 1) hx hb dMod_noAccount_12 (by decide) ?_
      refine lv_goto (tgt := 17) hx hb dMod_noAccount_13 (by decide) ?_
      exact hret 1 (())  (rfl) _ _ _ (by first | (rw [xHas_f1 c1]; rfl) | (rw [xHas_t c1 (Int32.not_le.mpr c9)]; rfl) | (rw [xHas_f2 (Int32.not_lt.mp c9)]; rfl)) (hP.sub [0] rfl) (hD.sub [0] (by decide) rfl) hS dMod_noAccount_17

set_option maxHeartbeats 4000000 in
set_option maxRecDepth 100000 in
theorem kM_supply (l : Launch) (dC : Nat → ClassId) (dI : Nat → Nat → Nat) (kI kJ kZ : ClassId) (m0 : Nat) (b1 : Nat) (b2 : Nat) (b3 : Nat) (b4 : Nat) (b5 : Nat) (b6 : Nat) (b7 : Nat) (b8 : Nat) (b9 : Nat) (b10 : Nat) (b11 : Nat) (b12 : Nat) (b13 : Nat) (b14 : Nat) (b15 : Nat) (b16 : Nat) (b17 : Nat) (b18 : Nat) (b19 : Nat) (b20 : Nat) (b21 : Nat) (b22 : Nat) (b23 : Nat) (b24 : Nat) (nA : Nat) (kn : Nat) (ln : Nat) (an : Nat) (f0 : Int32) (f2 : Int32) (f3 : Int32) (f4 : Int32) (f5 : Int32) (f1 : Int32) (bal : Nat → Int32) (hnA : nA ≤ 24) :
    XM stX l yMod_supply wMod_supply { frames := 0, cells := 0, slots := 0, locals := 0 } (dC, dI) xCl (x_T kI kJ kZ) [(m0, .inr (6, [.int f0, .int (nI nA), .ref b1, .ref b2, .ref b3, .ref b4, .ref b5, .ref b6, .ref b7, .int (nI kn), .ref b8, .int (nI ln), .ref b9, .ref b10, .ref b11, .ref b12, .ref b13, .ref b14, .int f1, .ref b15, .ref b16, .ref b17, .ref b18, .ref b19, .ref b20, .ref b21, .ref b22, .ref b23, .ref b24, .int (nI an), .int f2, .int f3, .int f4, .int f5])), (b1, .inl (kI, 24, .inl bal))] [.ref m0] 0 0 x_eI (fun (r : Int32) (u : Unit) => r = l_sum bal nA) (fun (u : Unit) => [(m0, .inr (6, [.int 0, .int (nI nA), .ref b1, .ref b2, .ref b3, .ref b4, .ref b5, .ref b6, .ref b7, .int (nI kn), .ref b8, .int (nI ln), .ref b9, .ref b10, .ref b11, .ref b12, .ref b13, .ref b14, .int f1, .ref b15, .ref b16, .ref b17, .ref b18, .ref b19, .ref b20, .ref b21, .ref b22, .ref b23, .ref b24, .int (nI an), .int f2, .int f3, .int f4, .int f5])), (b1, .inl (kI, 24, .inl bal))]) := by
  refine XM.ofI (cc := cMod_supply) (maxL := 3) (by decide) rfl (Nat.le_of_ble_eq_true rfl) ?_
  intro p e s m below meth c A Q hx hb hr hml hown hts hlocks hin hA hK hP hD hX hS ls hl hret
  have hl : lv_has ls 3 [(0, .ref m0)] := hl
  refine lv_aload_n hx hb dMod_supply_0 rfl (lv_at hl 0 rfl) ?_
  refine lv_iconst (v := 0) hx hb dMod_supply_1 (by decide) ?_
  refine va_put (D := (dC, dI)) (ci := 6) (v := .int 0) (ty := .int) (C := RMod) (T := TMod) (N := 34) hx hb hts (fun w h => List.mem_cons_of_mem _ (layMod w h)) tyMod tykMod nmMod hown hK hP hD hS 0 rfl rfl 0 (by decide) (hts (.fieldLink RMod 83 "CallLedgerModel" "thrown" "I") (List.mem_cons_of_mem _ gw644)) (fun _ h9 => h9) rfl (by decide +kernel) rfl rfl (Nat.le_of_ble_eq_true rfl) dMod_supply_2 (fun H locs hP hD hS => ?_)
  have hP : va_P (dC, dI) xCl [(m0, .inr (6, [.int 0, .int (nI nA), .ref b1, .ref b2, .ref b3, .ref b4, .ref b5, .ref b6, .ref b7, .int (nI kn), .ref b8, .int (nI ln), .ref b9, .ref b10, .ref b11, .ref b12, .ref b13, .ref b14, .int f1, .ref b15, .ref b16, .ref b17, .ref b18, .ref b19, .ref b20, .ref b21, .ref b22, .ref b23, .ref b24, .int (nI an), .int f2, .int f3, .int f4, .int f5])), (b1, .inl (kI, 24, .inl bal))] H := hP
  have hD : va_D A [(m0, .inr (6, [.int 0, .int (nI nA), .ref b1, .ref b2, .ref b3, .ref b4, .ref b5, .ref b6, .ref b7, .int (nI kn), .ref b8, .int (nI ln), .ref b9, .ref b10, .ref b11, .ref b12, .ref b13, .ref b14, .int f1, .ref b15, .ref b16, .ref b17, .ref b18, .ref b19, .ref b20, .ref b21, .ref b22, .ref b23, .ref b24, .int (nI an), .int f2, .int f3, .int f4, .int f5])), (b1, .inl (kI, 24, .inl bal))] := hD
  refine lv_iconst (v := 0) hx hb dMod_supply_5 (by decide) ?_
  refine lv_istore_n (lv' := [(1, .int 0), (0, .ref m0)]) hx hb dMod_supply_6 rfl hl (by decide) rfl (fun ls hl => ?_)
  refine lv_iconst (v := 0) hx hb dMod_supply_7 (by decide) ?_
  refine lv_istore_n (lv' := [(2, .int 0), (1, .int 0), (0, .ref m0)]) hx hb dMod_supply_8 rfl hl (by decide) rfl (fun ls hl => ?_)
  have loop9 : ∀ (N : Nat) (i : Nat), ∀ (hN : nA - i < N) (hi : i ≤ nA) (H : Heap) (locs : List Loc), va_P (dC, dI) xCl [(m0, .inr (6, [.int 0, .int (nI nA), .ref b1, .ref b2, .ref b3, .ref b4, .ref b5, .ref b6, .ref b7, .int (nI kn), .ref b8, .int (nI ln), .ref b9, .ref b10, .ref b11, .ref b12, .ref b13, .ref b14, .int f1, .ref b15, .ref b16, .ref b17, .ref b18, .ref b19, .ref b20, .ref b21, .ref b22, .ref b23, .ref b24, .int (nI an), .int f2, .int f3, .int f4, .int f5])), (b1, .inl (kI, 24, .inl bal))] H → va_D A [(m0, .inr (6, [.int 0, .int (nI nA), .ref b1, .ref b2, .ref b3, .ref b4, .ref b5, .ref b6, .ref b7, .int (nI kn), .ref b8, .int (nI ln), .ref b9, .ref b10, .ref b11, .ref b12, .ref b13, .ref b14, .int f1, .ref b15, .ref b16, .ref b17, .ref b18, .ref b19, .ref b20, .ref b21, .ref b22, .ref b23, .ref b24, .int (nI an), .int f2, .int f3, .int f4, .int f5])), (b1, .inl (kI, 24, .inl bal))] → va_S A s.heap H locs → ∀ ls, lv_has ls 3 [(0, .ref m0), (1, .int (l_sum bal i)), (2, .int (nI i))] → W p l e { frames := 0, cells := 0, slots := 0, locals := 0 } s m [.ref m0].toArray below meth c H locs 0 0 Q (F0 m 9 ls []) := by
    intro N
    induction N with
    | zero => intro i hN; exact absurd hN (Nat.not_lt_zero _)
    | succ N ih =>
      intro i hN hi H locs hP hD hS ls hl
      refine lv_iload_n hx hb dMod_supply_9 rfl (lv_at hl 2 rfl) ?_
      refine lv_aload_n hx hb dMod_supply_10 rfl (lv_at hl 0 rfl) ?_
      refine va_get (D := (dC, dI)) (ci := 6) (v := .int (nI nA)) (C := RMod) (T := TMod) (N := 34) hx hb hts (fun w h => List.mem_cons_of_mem _ (layMod w h)) hown hK hP 0 rfl rfl 1 (by decide) (hts (.fieldLink RMod 87 "CallLedgerModel" "accounts" "I") (List.mem_cons_of_mem _ gw645)) (fun _ h9 => h9) rfl dMod_supply_11 ?_
      refine lv_icmp_ge (tgt := 32) hx hb dMod_supply_14 (by decide) (fun c14 => ?_) (fun c14 => ?_)
      · have c14 : nA ≤ i := (nI_leI (a := nA) (b := i) (by omega) (by omega)).mp c14
        refine lv_iload_n hx hb dMod_supply_32 rfl (lv_at hl 1 rfl) ?_
        exact hret (l_sum bal i) (()) _ _ _ (by rw [show i = nA from by omega]) (hP.sub [0, 1] rfl) (hD.sub [0, 1] (by decide) rfl) hS dMod_supply_33
      · have c14 : ¬ (nA ≤ i) := fun z9 => c14 ((nI_leI (a := nA) (b := i) (by omega) (by omega)).mpr z9)
        refine lv_iload_n hx hb dMod_supply_17 rfl (lv_at hl 1 rfl) ?_
        refine lv_aload_n hx hb dMod_supply_18 rfl (lv_at hl 0 rfl) ?_
        refine va_get (D := (dC, dI)) (ci := 6) (v := .ref b1) (C := RMod) (T := TMod) (N := 34) hx hb hts (fun w h => List.mem_cons_of_mem _ (layMod w h)) hown hK hP 0 rfl rfl 2 (by decide) (hts (.fieldLink RMod 7 "CallLedgerModel" "balances" "[I") (List.mem_cons_of_mem _ gw646)) (fun _ h9 => h9) rfl dMod_supply_19 ?_
        refine lv_iload_n hx hb dMod_supply_22 rfl (lv_at hl 2 rfl) ?_
        refine x_iald (j := i) hx hb hK hP 1 0 rfl rfl rfl (by omega) (by omega) dMod_supply_23 ?_
        refine lv_iadd hx hb dMod_supply_24 ?_
        refine lv_istore_n (lv' := [(1, .int ((l_sum bal i) + (bal i))), (0, .ref m0), (2, .int (nI i))]) hx hb dMod_supply_25 rfl hl (by decide) rfl (fun ls hl => ?_)
        refine lv_iinc (v := nI (i + 1)) (lv' := [(2, .int (nI (i + 1))), (1, .int ((l_sum bal i) + (bal i))), (0, .ref m0)]) hx hb dMod_supply_26 hl (k := 2) rfl (nI_1 _) (by decide) rfl (fun ls hl => ?_)
        refine lv_goto (tgt := 9) hx hb dMod_supply_29 (by decide) ?_
        exact ih (i + 1) (by omega) (by omega) _ _ (hP.sub [0, 1] rfl) (hD.sub [0, 1] (by decide) rfl) hS _ (lv_sub hl [2, 1, 0] rfl)
  exact loop9 _ 0 (Nat.lt_succ_self _) (Nat.zero_le _) _ _ (hP.sub [0, 1] rfl) (hD.sub [0, 1] (by decide) rfl) hS _ (lv_sub hl [2, 1, 0] rfl)

set_option maxHeartbeats 4000000 in
set_option maxRecDepth 100000 in
theorem kM_openX (l : Launch) (dC : Nat → ClassId) (dI : Nat → Nat → Nat) (kI kJ kZ : ClassId) (m0 : Nat) (b1 : Nat) (b2 : Nat) (b3 : Nat) (b4 : Nat) (b5 : Nat) (b6 : Nat) (b7 : Nat) (b8 : Nat) (b9 : Nat) (b10 : Nat) (b11 : Nat) (b12 : Nat) (b13 : Nat) (b14 : Nat) (b15 : Nat) (b16 : Nat) (b17 : Nat) (b18 : Nat) (b19 : Nat) (b20 : Nat) (b21 : Nat) (b22 : Nat) (b23 : Nat) (b24 : Nat) (nA : Nat) (kn : Nat) (ln : Nat) (an : Nat) (f0 : Int32) (f2 : Int32) (f3 : Int32) (f4 : Int32) (f5 : Int32) (f1 : Int32) (bal : Nat → Int32) (x : Int32) (hnA : nA ≤ 24) (hxa : x < 0) :
    XM stX l yMod_open wMod_open { frames := 1, cells := 0, slots := 0, locals := 22 } (dC, dI) xCl (x_T kI kJ kZ) [(m0, .inr (6, [.int f0, .int (nI nA), .ref b1, .ref b2, .ref b3, .ref b4, .ref b5, .ref b6, .ref b7, .int (nI kn), .ref b8, .int (nI ln), .ref b9, .ref b10, .ref b11, .ref b12, .ref b13, .ref b14, .int f1, .ref b15, .ref b16, .ref b17, .ref b18, .ref b19, .ref b20, .ref b21, .ref b22, .ref b23, .ref b24, .int (nI an), .int f2, .int f3, .int f4, .int f5])), (b1, .inl (kI, 24, .inl bal))] [.ref m0, .int x] 0 0 x_eI (fun (r : Int32) (u : Unit) => r = 0) (fun (u : Unit) => [(m0, .inr (6, [.int 1, .int (nI nA), .ref b1, .ref b2, .ref b3, .ref b4, .ref b5, .ref b6, .ref b7, .int (nI kn), .ref b8, .int (nI ln), .ref b9, .ref b10, .ref b11, .ref b12, .ref b13, .ref b14, .int f1, .ref b15, .ref b16, .ref b17, .ref b18, .ref b19, .ref b20, .ref b21, .ref b22, .ref b23, .ref b24, .int (nI an), .int f2, .int f3, .int f4, .int f5])), (b1, .inl (kI, 24, .inl bal))]) := by
  refine XM.ofI (cc := cMod_open) (maxL := 3) (by decide) rfl (Nat.le_of_ble_eq_true rfl) ?_
  intro p e s m below meth c A Q hx hb hr hml hown hts hlocks hin hA hK hP hD hX hS ls hl hret
  have hl : lv_has ls 3 [(0, .ref m0), (1, .int x)] := hl
  refine lv_aload_n hx hb dMod_open_0 rfl (lv_at hl 0 rfl) ?_
  refine XM.callVi (As := []) (rest := []) (wr := []) stX_ok ⟨hx, hb, hml, hown, hts⟩ (kM_supply l dC dI kI kJ kZ m0 b1 b2 b3 b4 b5 b6 b7 b8 b9 b10 b11 b12 b13 b14 b15 b16 b17 b18 b19 b20 b21 b22 b23 b24 nA kn ln an f0 f2 f3 f4 f5 f1 bal (by first | assumption | omega)) (cwV 0 hts (x_gV gw759 gw752 gw753 gw43 gw754) rfl rfl rfl (by decide +kernel) ⟨Nat.le_of_ble_eq_true rfl, Nat.le_of_ble_eq_true rfl⟩) hK hP hD hS hA hX [0, 1] [] rfl rfl (by decide) (by decide) (by decide) rfl rfl rfl rfl hl.1 (Nat.le_of_ble_eq_true rfl) dMod_open_1 ⟨Nat.le_of_ble_eq_true rfl, Nat.le_of_ble_eq_true rfl⟩ (fun r_2 u_1 H locs hw hP hD hS => ?_)
  obtain rfl := hw
  have hP : va_P (dC, dI) xCl [(m0, .inr (6, [.int 0, .int (nI nA), .ref b1, .ref b2, .ref b3, .ref b4, .ref b5, .ref b6, .ref b7, .int (nI kn), .ref b8, .int (nI ln), .ref b9, .ref b10, .ref b11, .ref b12, .ref b13, .ref b14, .int f1, .ref b15, .ref b16, .ref b17, .ref b18, .ref b19, .ref b20, .ref b21, .ref b22, .ref b23, .ref b24, .int (nI an), .int f2, .int f3, .int f4, .int f5])), (b1, .inl (kI, 24, .inl bal))] H := hP
  have hD : va_D A [(m0, .inr (6, [.int 0, .int (nI nA), .ref b1, .ref b2, .ref b3, .ref b4, .ref b5, .ref b6, .ref b7, .int (nI kn), .ref b8, .int (nI ln), .ref b9, .ref b10, .ref b11, .ref b12, .ref b13, .ref b14, .int f1, .ref b15, .ref b16, .ref b17, .ref b18, .ref b19, .ref b20, .ref b21, .ref b22, .ref b23, .ref b24, .int (nI an), .int f2, .int f3, .int f4, .int f5])), (b1, .inl (kI, 24, .inl bal))] := hD
  refine lv_istore_n (lv' := [(2, .int (l_sum bal nA)), (0, .ref m0), (1, .int x)]) hx hb dMod_open_4 rfl hl (by decide) rfl (fun ls hl => ?_)
  refine lv_aload_n hx hb dMod_open_5 rfl (lv_at hl 1 rfl) ?_
  refine lv_iload_n hx hb dMod_open_6 rfl (lv_at hl 2 rfl) ?_
  refine lv_if_ge (tgt := 14) hx hb dMod_open_7 (by decide) (fun c7 => ?_) (fun c7 => ?_)
  · exact absurd hxa (Int32.not_lt.mpr c7)
  · refine lv_iconst (v := 1) hx hb dMod_open_10 (by decide) ?_
    refine lv_goto (tgt := 15) hx hb dMod_open_11 (by decide) ?_
    refine va_put (D := (dC, dI)) (ci := 6) (v := .int 1) (ty := .int) (C := RMod) (T := TMod) (N := 34) hx hb hts (fun w h => List.mem_cons_of_mem _ (layMod w h)) tyMod tykMod nmMod hown hK hP hD hS 0 rfl rfl 0 (by decide) (hts (.fieldLink RMod 83 "CallLedgerModel" "thrown" "I") (List.mem_cons_of_mem _ gw644)) (fun _ h9 => h9) rfl (by decide +kernel) rfl rfl (Nat.le_of_ble_eq_true rfl) dMod_open_15 (fun H locs hP hD hS => ?_)
    have hP : va_P (dC, dI) xCl [(m0, .inr (6, [.int 1, .int (nI nA), .ref b1, .ref b2, .ref b3, .ref b4, .ref b5, .ref b6, .ref b7, .int (nI kn), .ref b8, .int (nI ln), .ref b9, .ref b10, .ref b11, .ref b12, .ref b13, .ref b14, .int f1, .ref b15, .ref b16, .ref b17, .ref b18, .ref b19, .ref b20, .ref b21, .ref b22, .ref b23, .ref b24, .int (nI an), .int f2, .int f3, .int f4, .int f5])), (b1, .inl (kI, 24, .inl bal))] H := hP
    have hD : va_D A [(m0, .inr (6, [.int 1, .int (nI nA), .ref b1, .ref b2, .ref b3, .ref b4, .ref b5, .ref b6, .ref b7, .int (nI kn), .ref b8, .int (nI ln), .ref b9, .ref b10, .ref b11, .ref b12, .ref b13, .ref b14, .int f1, .ref b15, .ref b16, .ref b17, .ref b18, .ref b19, .ref b20, .ref b21, .ref b22, .ref b23, .ref b24, .int (nI an), .int f2, .int f3, .int f4, .int f5])), (b1, .inl (kI, 24, .inl bal))] := hD
    refine lv_aload_n hx hb dMod_open_18 rfl (lv_at hl 1 rfl) ?_
    refine va_get (D := (dC, dI)) (ci := 6) (v := .int 1) (C := RMod) (T := TMod) (N := 34) hx hb hts (fun w h => List.mem_cons_of_mem _ (layMod w h)) hown hK hP 0 rfl rfl 0 (by decide) (hts (.fieldLink RMod 83 "CallLedgerModel" "thrown" "I") (List.mem_cons_of_mem _ gw644)) (fun _ h9 => h9) rfl dMod_open_19 ?_
    refine lv_if_le (tgt := 27) hx hb dMod_open_22 (by decide) (fun c22 => ?_) (fun c22 => ?_)
    · exact absurd c22 (by decide)
    · refine lv_iconst (v := 0) hx hb dMod_open_25 (by decide) ?_
      exact hret 0 (()) _ _ _ (rfl) (hP.sub [0, 1] rfl) (hD.sub [0, 1] (by decide) rfl) hS dMod_open_26

set_option maxHeartbeats 4000000 in
set_option maxRecDepth 100000 in
theorem kM_open (l : Launch) (dC : Nat → ClassId) (dI : Nat → Nat → Nat) (kI kJ kZ : ClassId) (m0 : Nat) (b1 : Nat) (b2 : Nat) (b3 : Nat) (b4 : Nat) (b5 : Nat) (b6 : Nat) (b7 : Nat) (b8 : Nat) (b9 : Nat) (b10 : Nat) (b11 : Nat) (b12 : Nat) (b13 : Nat) (b14 : Nat) (b15 : Nat) (b16 : Nat) (b17 : Nat) (b18 : Nat) (b19 : Nat) (b20 : Nat) (b21 : Nat) (b22 : Nat) (b23 : Nat) (b24 : Nat) (nA : Nat) (kn : Nat) (ln : Nat) (an : Nat) (f0 : Int32) (f2 : Int32) (f3 : Int32) (f4 : Int32) (f5 : Int32) (f1 : Int32) (bal : Nat → Int32) (lc : Nat → Nat) (z : Nat → Bool) (x : Int32) (hnA : nA ≤ 24) (hxa : ¬ x < 0) :
    XM stX l yMod_open wMod_open { frames := 1, cells := 0, slots := 0, locals := 22 } (dC, dI) xCl (x_T kI kJ kZ) [(m0, .inr (6, [.int f0, .int (nI nA), .ref b1, .ref b2, .ref b3, .ref b4, .ref b5, .ref b6, .ref b7, .int (nI kn), .ref b8, .int (nI ln), .ref b9, .ref b10, .ref b11, .ref b12, .ref b13, .ref b14, .int f1, .ref b15, .ref b16, .ref b17, .ref b18, .ref b19, .ref b20, .ref b21, .ref b22, .ref b23, .ref b24, .int (nI an), .int f2, .int f3, .int f4, .int f5])), (b1, .inl (kI, 24, .inl bal)), (b3, .inl (kI, 24, .inl (fun j => nI (lc j)))), (b4, .inl (kZ, 24, .inl (fun j => x_b (z j))))] [.ref m0, .int x] 0 0 x_eI (fun (r : Int32) (u : (Nat → Int32) × Nat × (Nat → Nat) × (Nat → Bool)) => (r = if nA < 24 ∧ (l_sum bal nA).toInt64 + x.toInt64 ≤ 2147483647 then nI nA else -1) ∧ (u.1 = if nA < 24 ∧ (l_sum bal nA).toInt64 + x.toInt64 ≤ 2147483647 then upd bal nA x else bal) ∧ (u.2.1 = if nA < 24 ∧ (l_sum bal nA).toInt64 + x.toInt64 ≤ 2147483647 then nA + 1 else nA) ∧ (u.2.2.1 = if nA < 24 ∧ (l_sum bal nA).toInt64 + x.toInt64 ≤ 2147483647 then va_up lc nA 0 else lc) ∧ (u.2.2.2 = if nA < 24 ∧ (l_sum bal nA).toInt64 + x.toInt64 ≤ 2147483647 then va_up z nA false else z)) (fun (u : (Nat → Int32) × Nat × (Nat → Nat) × (Nat → Bool)) => [(m0, .inr (6, [.int 0, .int (nI u.2.1), .ref b1, .ref b2, .ref b3, .ref b4, .ref b5, .ref b6, .ref b7, .int (nI kn), .ref b8, .int (nI ln), .ref b9, .ref b10, .ref b11, .ref b12, .ref b13, .ref b14, .int f1, .ref b15, .ref b16, .ref b17, .ref b18, .ref b19, .ref b20, .ref b21, .ref b22, .ref b23, .ref b24, .int (nI an), .int f2, .int f3, .int f4, .int f5])), (b1, .inl (kI, 24, .inl u.1)), (b3, .inl (kI, 24, .inl (fun j => nI (u.2.2.1 j)))), (b4, .inl (kZ, 24, .inl (fun j => x_b (u.2.2.2 j))))]) := by
  refine XM.ofI (cc := cMod_open) (maxL := 3) (by decide) rfl (Nat.le_of_ble_eq_true rfl) ?_
  intro p e s m below meth c A Q hx hb hr hml hown hts hlocks hin hA hK hP hD hX hS ls hl hret
  have hl : lv_has ls 3 [(0, .ref m0), (1, .int x)] := hl
  refine lv_aload_n hx hb dMod_open_0 rfl (lv_at hl 0 rfl) ?_
  refine XM.callVi (As := []) (rest := []) (wr := [(b3, .inl (kI, 24, .inl (fun j => nI (lc j)))), (b4, .inl (kZ, 24, .inl (fun j => x_b (z j))))]) stX_ok ⟨hx, hb, hml, hown, hts⟩ (kM_supply l dC dI kI kJ kZ m0 b1 b2 b3 b4 b5 b6 b7 b8 b9 b10 b11 b12 b13 b14 b15 b16 b17 b18 b19 b20 b21 b22 b23 b24 nA kn ln an f0 f2 f3 f4 f5 f1 bal (by first | assumption | omega)) (cwV 0 hts (x_gV gw759 gw752 gw753 gw43 gw754) rfl rfl rfl (by decide +kernel) ⟨Nat.le_of_ble_eq_true rfl, Nat.le_of_ble_eq_true rfl⟩) hK hP hD hS hA hX [0, 1] [2, 3] rfl rfl (by decide) (by decide) (by decide) rfl rfl rfl rfl hl.1 (Nat.le_of_ble_eq_true rfl) dMod_open_1 ⟨Nat.le_of_ble_eq_true rfl, Nat.le_of_ble_eq_true rfl⟩ (fun r_2 u_1 H locs hw hP hD hS => ?_)
  obtain rfl := hw
  have hP : va_P (dC, dI) xCl [(b3, .inl (kI, 24, .inl (fun j => nI (lc j)))), (b4, .inl (kZ, 24, .inl (fun j => x_b (z j)))), (m0, .inr (6, [.int 0, .int (nI nA), .ref b1, .ref b2, .ref b3, .ref b4, .ref b5, .ref b6, .ref b7, .int (nI kn), .ref b8, .int (nI ln), .ref b9, .ref b10, .ref b11, .ref b12, .ref b13, .ref b14, .int f1, .ref b15, .ref b16, .ref b17, .ref b18, .ref b19, .ref b20, .ref b21, .ref b22, .ref b23, .ref b24, .int (nI an), .int f2, .int f3, .int f4, .int f5])), (b1, .inl (kI, 24, .inl bal))] H := hP
  have hD : va_D A [(b3, .inl (kI, 24, .inl (fun j => nI (lc j)))), (b4, .inl (kZ, 24, .inl (fun j => x_b (z j)))), (m0, .inr (6, [.int 0, .int (nI nA), .ref b1, .ref b2, .ref b3, .ref b4, .ref b5, .ref b6, .ref b7, .int (nI kn), .ref b8, .int (nI ln), .ref b9, .ref b10, .ref b11, .ref b12, .ref b13, .ref b14, .int f1, .ref b15, .ref b16, .ref b17, .ref b18, .ref b19, .ref b20, .ref b21, .ref b22, .ref b23, .ref b24, .int (nI an), .int f2, .int f3, .int f4, .int f5])), (b1, .inl (kI, 24, .inl bal))] := hD
  refine lv_istore_n (lv' := [(2, .int (l_sum bal nA)), (0, .ref m0), (1, .int x)]) hx hb dMod_open_4 rfl hl (by decide) rfl (fun ls hl => ?_)
  refine lv_aload_n hx hb dMod_open_5 rfl (lv_at hl 1 rfl) ?_
  refine lv_iload_n hx hb dMod_open_6 rfl (lv_at hl 2 rfl) ?_
  refine lv_if_ge (tgt := 14) hx hb dMod_open_7 (by decide) (fun c7 => ?_) (fun c7 => ?_)
  · refine lv_iconst (v := 0) hx hb dMod_open_14 (by decide) ?_
    refine va_put (D := (dC, dI)) (ci := 6) (v := .int 0) (ty := .int) (C := RMod) (T := TMod) (N := 34) hx hb hts (fun w h => List.mem_cons_of_mem _ (layMod w h)) tyMod tykMod nmMod hown hK hP hD hS 2 rfl rfl 0 (by decide) (hts (.fieldLink RMod 83 "CallLedgerModel" "thrown" "I") (List.mem_cons_of_mem _ gw644)) (fun _ h9 => h9) rfl (by decide +kernel) rfl rfl (Nat.le_of_ble_eq_true rfl) dMod_open_15 (fun H locs hP hD hS => ?_)
    have hP : va_P (dC, dI) xCl [(b3, .inl (kI, 24, .inl (fun j => nI (lc j)))), (b4, .inl (kZ, 24, .inl (fun j => x_b (z j)))), (m0, .inr (6, [.int 0, .int (nI nA), .ref b1, .ref b2, .ref b3, .ref b4, .ref b5, .ref b6, .ref b7, .int (nI kn), .ref b8, .int (nI ln), .ref b9, .ref b10, .ref b11, .ref b12, .ref b13, .ref b14, .int f1, .ref b15, .ref b16, .ref b17, .ref b18, .ref b19, .ref b20, .ref b21, .ref b22, .ref b23, .ref b24, .int (nI an), .int f2, .int f3, .int f4, .int f5])), (b1, .inl (kI, 24, .inl bal))] H := hP
    have hD : va_D A [(b3, .inl (kI, 24, .inl (fun j => nI (lc j)))), (b4, .inl (kZ, 24, .inl (fun j => x_b (z j)))), (m0, .inr (6, [.int 0, .int (nI nA), .ref b1, .ref b2, .ref b3, .ref b4, .ref b5, .ref b6, .ref b7, .int (nI kn), .ref b8, .int (nI ln), .ref b9, .ref b10, .ref b11, .ref b12, .ref b13, .ref b14, .int f1, .ref b15, .ref b16, .ref b17, .ref b18, .ref b19, .ref b20, .ref b21, .ref b22, .ref b23, .ref b24, .int (nI an), .int f2, .int f3, .int f4, .int f5])), (b1, .inl (kI, 24, .inl bal))] := hD
    refine lv_aload_n hx hb dMod_open_18 rfl (lv_at hl 1 rfl) ?_
    refine va_get (D := (dC, dI)) (ci := 6) (v := .int 0) (C := RMod) (T := TMod) (N := 34) hx hb hts (fun w h => List.mem_cons_of_mem _ (layMod w h)) hown hK hP 2 rfl rfl 0 (by decide) (hts (.fieldLink RMod 83 "CallLedgerModel" "thrown" "I") (List.mem_cons_of_mem _ gw644)) (fun _ h9 => h9) rfl dMod_open_19 ?_
    refine lv_if_le (tgt := 27) hx hb dMod_open_22 (by decide) (fun c22 => ?_) (fun c22 => ?_)
    · refine lv_aload_n hx hb dMod_open_27 rfl (lv_at hl 1 rfl) ?_
      refine va_get (D := (dC, dI)) (ci := 6) (v := .int (nI nA)) (C := RMod) (T := TMod) (N := 34) hx hb hts (fun w h => List.mem_cons_of_mem _ (layMod w h)) hown hK hP 2 rfl rfl 1 (by decide) (hts (.fieldLink RMod 87 "CallLedgerModel" "accounts" "I") (List.mem_cons_of_mem _ gw645)) (fun _ h9 => h9) rfl dMod_open_28 ?_
      refine lv_bipush (v := 24) hx hb dMod_open_31 (by decide) ?_
      refine lv_icmp_eq (tgt := 48) hx hb dMod_open_33 (by decide) (fun c33 => ?_) (fun c33 => ?_)
      · have c33 : nA = 24 := (nI_eq (a := nA) (b := 24) (by omega) (by omega)).mp c33
        refine lv_iconst (v := (-1)) hx hb dMod_open_48 (by decide) ?_
        exact hret (-1) ((bal, nA, lc, z)) _ _ _ (⟨by first | exact (if_pos ⟨by omega, c45⟩).symm | exact (if_neg (fun z => c45 z.2)).symm | exact (if_neg (fun z => by omega)).symm, by first | exact (if_pos ⟨by omega, c45⟩).symm | exact (if_neg (fun z => c45 z.2)).symm | exact (if_neg (fun z => by omega)).symm, by first | exact (if_pos ⟨by omega, c45⟩).symm | exact (if_neg (fun z => c45 z.2)).symm | exact (if_neg (fun z => by omega)).symm, by first | exact (if_pos ⟨by omega, c45⟩).symm | exact (if_neg (fun z => c45 z.2)).symm | exact (if_neg (fun z => by omega)).symm, by first | exact (if_pos ⟨by omega, c45⟩).symm | exact (if_neg (fun z => c45 z.2)).symm | exact (if_neg (fun z => by omega)).symm⟩) (hP.sub [2, 3, 0, 1] rfl) (hD.sub [2, 3, 0, 1] (by decide) rfl) hS dMod_open_49
      · have c33 : ¬ (nA = 24) := fun z9 => c33 ((nI_eq (a := nA) (b := 24) (by omega) (by omega)).mpr z9)
        refine lv_iload_n hx hb dMod_open_36 rfl (lv_at hl 0 rfl) ?_
        refine lv_i2l (v := (l_sum bal nA).toInt64) hx hb dMod_open_37 rfl ?_
        refine lv_iload_n hx hb dMod_open_38 rfl (lv_at hl 2 rfl) ?_
        refine lv_i2l (v := x.toInt64) hx hb dMod_open_39 rfl ?_
        refine lv_ladd hx hb dMod_open_40 ?_
        refine lv_ldc2 (v := 2147483647) hx hb hown (hts (.constantLong RMod 94 2147483647) (by decide +kernel)) dMod_open_41 ?_
        refine W.lcmp hx hb dMod_open_44 ?_
        refine lv_if_le (tgt := 50) hx hb dMod_open_45 (by decide) (fun c45 => ?_) (fun c45 => ?_)
        · have c45 := (lg_cmp_le _ _).mp c45
          refine lv_aload_n hx hb dMod_open_50 rfl (lv_at hl 1 rfl) ?_
          refine va_get (D := (dC, dI)) (ci := 6) (v := .ref b1) (C := RMod) (T := TMod) (N := 34) hx hb hts (fun w h => List.mem_cons_of_mem _ (layMod w h)) hown hK hP 2 rfl rfl 2 (by decide) (hts (.fieldLink RMod 7 "CallLedgerModel" "balances" "[I") (List.mem_cons_of_mem _ gw646)) (fun _ h9 => h9) rfl dMod_open_51 ?_
          refine lv_aload_n hx hb dMod_open_54 rfl (lv_at hl 1 rfl) ?_
          refine va_get (D := (dC, dI)) (ci := 6) (v := .int (nI nA)) (C := RMod) (T := TMod) (N := 34) hx hb hts (fun w h => List.mem_cons_of_mem _ (layMod w h)) hown hK hP 2 rfl rfl 1 (by decide) (hts (.fieldLink RMod 87 "CallLedgerModel" "accounts" "I") (List.mem_cons_of_mem _ gw645)) (fun _ h9 => h9) rfl dMod_open_55 ?_
          refine lv_iload_n hx hb dMod_open_58 rfl (lv_at hl 2 rfl) ?_
          refine x_iast (j := nA) hx hb hK hP hD hS 3 0 rfl rfl rfl (by omega) (by omega) dMod_open_59 (fun H locs hP hD hS => ?_)
          have hP : va_P (dC, dI) xCl [(b3, .inl (kI, 24, .inl (fun j => nI (lc j)))), (b4, .inl (kZ, 24, .inl (fun j => x_b (z j)))), (m0, .inr (6, [.int 0, .int (nI nA), .ref b1, .ref b2, .ref b3, .ref b4, .ref b5, .ref b6, .ref b7, .int (nI kn), .ref b8, .int (nI ln), .ref b9, .ref b10, .ref b11, .ref b12, .ref b13, .ref b14, .int f1, .ref b15, .ref b16, .ref b17, .ref b18, .ref b19, .ref b20, .ref b21, .ref b22, .ref b23, .ref b24, .int (nI an), .int f2, .int f3, .int f4, .int f5])), (b1, .inl (kI, 24, .inl (upd bal nA x)))] H := hP
          have hD : va_D A [(b3, .inl (kI, 24, .inl (fun j => nI (lc j)))), (b4, .inl (kZ, 24, .inl (fun j => x_b (z j)))), (m0, .inr (6, [.int 0, .int (nI nA), .ref b1, .ref b2, .ref b3, .ref b4, .ref b5, .ref b6, .ref b7, .int (nI kn), .ref b8, .int (nI ln), .ref b9, .ref b10, .ref b11, .ref b12, .ref b13, .ref b14, .int f1, .ref b15, .ref b16, .ref b17, .ref b18, .ref b19, .ref b20, .ref b21, .ref b22, .ref b23, .ref b24, .int (nI an), .int f2, .int f3, .int f4, .int f5])), (b1, .inl (kI, 24, .inl (upd bal nA x)))] := hD
          refine lv_aload_n hx hb dMod_open_60 rfl (lv_at hl 1 rfl) ?_
          refine va_get (D := (dC, dI)) (ci := 6) (v := .ref b3) (C := RMod) (T := TMod) (N := 34) hx hb hts (fun w h => List.mem_cons_of_mem _ (layMod w h)) hown hK hP 2 rfl rfl 4 (by decide) (hts (.fieldLink RMod 16 "CallLedgerModel" "lengths" "[I") (List.mem_cons_of_mem _ gw648)) (fun _ h9 => h9) rfl dMod_open_61 ?_
          refine lv_aload_n hx hb dMod_open_64 rfl (lv_at hl 1 rfl) ?_
          refine va_get (D := (dC, dI)) (ci := 6) (v := .int (nI nA)) (C := RMod) (T := TMod) (N := 34) hx hb hts (fun w h => List.mem_cons_of_mem _ (layMod w h)) hown hK hP 2 rfl rfl 1 (by decide) (hts (.fieldLink RMod 87 "CallLedgerModel" "accounts" "I") (List.mem_cons_of_mem _ gw645)) (fun _ h9 => h9) rfl dMod_open_65 ?_
          refine lv_iconst (v := 0) hx hb dMod_open_68 (by decide) ?_
          refine x_iast (j := nA) hx hb hK hP hD hS 0 0 rfl rfl rfl (by omega) (by omega) dMod_open_69 (fun H locs hP hD hS => ?_)
          have hP : va_P (dC, dI) xCl [(b3, .inl (kI, 24, .inl (upd (fun j => nI (lc j)) nA 0))), (b4, .inl (kZ, 24, .inl (fun j => x_b (z j)))), (m0, .inr (6, [.int 0, .int (nI nA), .ref b1, .ref b2, .ref b3, .ref b4, .ref b5, .ref b6, .ref b7, .int (nI kn), .ref b8, .int (nI ln), .ref b9, .ref b10, .ref b11, .ref b12, .ref b13, .ref b14, .int f1, .ref b15, .ref b16, .ref b17, .ref b18, .ref b19, .ref b20, .ref b21, .ref b22, .ref b23, .ref b24, .int (nI an), .int f2, .int f3, .int f4, .int f5])), (b1, .inl (kI, 24, .inl (upd bal nA x)))] H := hP
          have hD : va_D A [(b3, .inl (kI, 24, .inl (upd (fun j => nI (lc j)) nA 0))), (b4, .inl (kZ, 24, .inl (fun j => x_b (z j)))), (m0, .inr (6, [.int 0, .int (nI nA), .ref b1, .ref b2, .ref b3, .ref b4, .ref b5, .ref b6, .ref b7, .int (nI kn), .ref b8, .int (nI ln), .ref b9, .ref b10, .ref b11, .ref b12, .ref b13, .ref b14, .int f1, .ref b15, .ref b16, .ref b17, .ref b18, .ref b19, .ref b20, .ref b21, .ref b22, .ref b23, .ref b24, .int (nI an), .int f2, .int f3, .int f4, .int f5])), (b1, .inl (kI, 24, .inl (upd bal nA x)))] := hD
          rw [(show upd (fun j => nI (lc j)) nA 0 = fun j => nI (va_up lc nA 0 j) from x_updL lc nA 0)] at hP hD
          have hP : va_P (dC, dI) xCl [(b3, .inl (kI, 24, .inl (fun j => nI (va_up lc nA 0 j)))), (b4, .inl (kZ, 24, .inl (fun j => x_b (z j)))), (m0, .inr (6, [.int 0, .int (nI nA), .ref b1, .ref b2, .ref b3, .ref b4, .ref b5, .ref b6, .ref b7, .int (nI kn), .ref b8, .int (nI ln), .ref b9, .ref b10, .ref b11, .ref b12, .ref b13, .ref b14, .int f1, .ref b15, .ref b16, .ref b17, .ref b18, .ref b19, .ref b20, .ref b21, .ref b22, .ref b23, .ref b24, .int (nI an), .int f2, .int f3, .int f4, .int f5])), (b1, .inl (kI, 24, .inl (upd bal nA x)))] H := hP
          have hD : va_D A [(b3, .inl (kI, 24, .inl (fun j => nI (va_up lc nA 0 j)))), (b4, .inl (kZ, 24, .inl (fun j => x_b (z j)))), (m0, .inr (6, [.int 0, .int (nI nA), .ref b1, .ref b2, .ref b3, .ref b4, .ref b5, .ref b6, .ref b7, .int (nI kn), .ref b8, .int (nI ln), .ref b9, .ref b10, .ref b11, .ref b12, .ref b13, .ref b14, .int f1, .ref b15, .ref b16, .ref b17, .ref b18, .ref b19, .ref b20, .ref b21, .ref b22, .ref b23, .ref b24, .int (nI an), .int f2, .int f3, .int f4, .int f5])), (b1, .inl (kI, 24, .inl (upd bal nA x)))] := hD
          refine lv_aload_n hx hb dMod_open_70 rfl (lv_at hl 1 rfl) ?_
          refine va_get (D := (dC, dI)) (ci := 6) (v := .ref b4) (C := RMod) (T := TMod) (N := 34) hx hb hts (fun w h => List.mem_cons_of_mem _ (layMod w h)) hown hK hP 2 rfl rfl 5 (by decide) (hts (.fieldLink RMod 19 "CallLedgerModel" "sealed0" "[Z") (List.mem_cons_of_mem _ gw649)) (fun _ h9 => h9) rfl dMod_open_71 ?_
          refine lv_aload_n hx hb dMod_open_74 rfl (lv_at hl 1 rfl) ?_
          refine va_get (D := (dC, dI)) (ci := 6) (v := .int (nI nA)) (C := RMod) (T := TMod) (N := 34) hx hb hts (fun w h => List.mem_cons_of_mem _ (layMod w h)) hown hK hP 2 rfl rfl 1 (by decide) (hts (.fieldLink RMod 87 "CallLedgerModel" "accounts" "I") (List.mem_cons_of_mem _ gw645)) (fun _ h9 => h9) rfl dMod_open_75 ?_
          refine lv_iconst (v := 0) hx hb dMod_open_78 (by decide) ?_
          refine x_zast (j := nA) hx hb hK hP hD hS 1 2 rfl rfl rfl (by omega) (by omega) dMod_open_79 rfl (fun H locs hP hD hS => ?_)
          have hP : va_P (dC, dI) xCl [(b3, .inl (kI, 24, .inl (fun j => nI (va_up lc nA 0 j)))), (b4, .inl (kZ, 24, .inl (upd (fun j => x_b (z j)) nA 0))), (m0, .inr (6, [.int 0, .int (nI nA), .ref b1, .ref b2, .ref b3, .ref b4, .ref b5, .ref b6, .ref b7, .int (nI kn), .ref b8, .int (nI ln), .ref b9, .ref b10, .ref b11, .ref b12, .ref b13, .ref b14, .int f1, .ref b15, .ref b16, .ref b17, .ref b18, .ref b19, .ref b20, .ref b21, .ref b22, .ref b23, .ref b24, .int (nI an), .int f2, .int f3, .int f4, .int f5])), (b1, .inl (kI, 24, .inl (upd bal nA x)))] H := hP
          have hD : va_D A [(b3, .inl (kI, 24, .inl (fun j => nI (va_up lc nA 0 j)))), (b4, .inl (kZ, 24, .inl (upd (fun j => x_b (z j)) nA 0))), (m0, .inr (6, [.int 0, .int (nI nA), .ref b1, .ref b2, .ref b3, .ref b4, .ref b5, .ref b6, .ref b7, .int (nI kn), .ref b8, .int (nI ln), .ref b9, .ref b10, .ref b11, .ref b12, .ref b13, .ref b14, .int f1, .ref b15, .ref b16, .ref b17, .ref b18, .ref b19, .ref b20, .ref b21, .ref b22, .ref b23, .ref b24, .int (nI an), .int f2, .int f3, .int f4, .int f5])), (b1, .inl (kI, 24, .inl (upd bal nA x)))] := hD
          rw [(show upd (fun j => x_b (z j)) nA 0 = fun j => x_b (va_up z nA false j) from x_updB z nA false)] at hP hD
          have hP : va_P (dC, dI) xCl [(b3, .inl (kI, 24, .inl (fun j => nI (va_up lc nA 0 j)))), (b4, .inl (kZ, 24, .inl (fun j => x_b (va_up z nA false j)))), (m0, .inr (6, [.int 0, .int (nI nA), .ref b1, .ref b2, .ref b3, .ref b4, .ref b5, .ref b6, .ref b7, .int (nI kn), .ref b8, .int (nI ln), .ref b9, .ref b10, .ref b11, .ref b12, .ref b13, .ref b14, .int f1, .ref b15, .ref b16, .ref b17, .ref b18, .ref b19, .ref b20, .ref b21, .ref b22, .ref b23, .ref b24, .int (nI an), .int f2, .int f3, .int f4, .int f5])), (b1, .inl (kI, 24, .inl (upd bal nA x)))] H := hP
          have hD : va_D A [(b3, .inl (kI, 24, .inl (fun j => nI (va_up lc nA 0 j)))), (b4, .inl (kZ, 24, .inl (fun j => x_b (va_up z nA false j)))), (m0, .inr (6, [.int 0, .int (nI nA), .ref b1, .ref b2, .ref b3, .ref b4, .ref b5, .ref b6, .ref b7, .int (nI kn), .ref b8, .int (nI ln), .ref b9, .ref b10, .ref b11, .ref b12, .ref b13, .ref b14, .int f1, .ref b15, .ref b16, .ref b17, .ref b18, .ref b19, .ref b20, .ref b21, .ref b22, .ref b23, .ref b24, .int (nI an), .int f2, .int f3, .int f4, .int f5])), (b1, .inl (kI, 24, .inl (upd bal nA x)))] := hD
          refine lv_aload_n hx hb dMod_open_80 rfl (lv_at hl 1 rfl) ?_
          refine lv_dup hx hb dMod_open_81 rfl ?_
          refine va_get (D := (dC, dI)) (ci := 6) (v := .int (nI nA)) (C := RMod) (T := TMod) (N := 34) hx hb hts (fun w h => List.mem_cons_of_mem _ (layMod w h)) hown hK hP 2 rfl rfl 1 (by decide) (hts (.fieldLink RMod 87 "CallLedgerModel" "accounts" "I") (List.mem_cons_of_mem _ gw645)) (fun _ h9 => h9) rfl dMod_open_82 ?_
          refine lv_iconst (v := 1) hx hb dMod_open_85 (by decide) ?_
          refine lv_iadd hx hb dMod_open_86 ?_
          refine x_topi (y := nI (nA + 1)) (nI_1 _) ?_
          refine va_put (D := (dC, dI)) (ci := 6) (v := .int (nI (nA + 1))) (ty := .int) (C := RMod) (T := TMod) (N := 34) hx hb hts (fun w h => List.mem_cons_of_mem _ (layMod w h)) tyMod tykMod nmMod hown hK hP hD hS 2 rfl rfl 1 (by decide) (hts (.fieldLink RMod 87 "CallLedgerModel" "accounts" "I") (List.mem_cons_of_mem _ gw645)) (fun _ h9 => h9) rfl (by decide +kernel) rfl rfl (Nat.le_of_ble_eq_true rfl) dMod_open_87 (fun H locs hP hD hS => ?_)
          have hP : va_P (dC, dI) xCl [(b3, .inl (kI, 24, .inl (fun j => nI (va_up lc nA 0 j)))), (b4, .inl (kZ, 24, .inl (fun j => x_b (va_up z nA false j)))), (m0, .inr (6, [.int 0, .int (nI (nA + 1)), .ref b1, .ref b2, .ref b3, .ref b4, .ref b5, .ref b6, .ref b7, .int (nI kn), .ref b8, .int (nI ln), .ref b9, .ref b10, .ref b11, .ref b12, .ref b13, .ref b14, .int f1, .ref b15, .ref b16, .ref b17, .ref b18, .ref b19, .ref b20, .ref b21, .ref b22, .ref b23, .ref b24, .int (nI an), .int f2, .int f3, .int f4, .int f5])), (b1, .inl (kI, 24, .inl (upd bal nA x)))] H := hP
          have hD : va_D A [(b3, .inl (kI, 24, .inl (fun j => nI (va_up lc nA 0 j)))), (b4, .inl (kZ, 24, .inl (fun j => x_b (va_up z nA false j)))), (m0, .inr (6, [.int 0, .int (nI (nA + 1)), .ref b1, .ref b2, .ref b3, .ref b4, .ref b5, .ref b6, .ref b7, .int (nI kn), .ref b8, .int (nI ln), .ref b9, .ref b10, .ref b11, .ref b12, .ref b13, .ref b14, .int f1, .ref b15, .ref b16, .ref b17, .ref b18, .ref b19, .ref b20, .ref b21, .ref b22, .ref b23, .ref b24, .int (nI an), .int f2, .int f3, .int f4, .int f5])), (b1, .inl (kI, 24, .inl (upd bal nA x)))] := hD
          refine lv_aload_n hx hb dMod_open_90 rfl (lv_at hl 1 rfl) ?_
          refine va_get (D := (dC, dI)) (ci := 6) (v := .int (nI (nA + 1))) (C := RMod) (T := TMod) (N := 34) hx hb hts (fun w h => List.mem_cons_of_mem _ (layMod w h)) hown hK hP 2 rfl rfl 1 (by decide) (hts (.fieldLink RMod 87 "CallLedgerModel" "accounts" "I") (List.mem_cons_of_mem _ gw645)) (fun _ h9 => h9) rfl dMod_open_91 ?_
          refine lv_iconst (v := 1) hx hb dMod_open_94 (by decide) ?_
          refine lv_isub hx hb dMod_open_95 ?_
          refine x_topi (y := nI nA) ((x_pred (by omega)).trans (by rw [Nat.add_sub_cancel])) ?_
          exact hret (nI nA) ((upd bal nA x, nA + 1, va_up lc nA 0, va_up z nA false)) _ _ _ (⟨by first | exact (if_pos ⟨by omega, c45⟩).symm | exact (if_neg (fun z => c45 z.2)).symm | exact (if_neg (fun z => by omega)).symm, by first | exact (if_pos ⟨by omega, c45⟩).symm | exact (if_neg (fun z => c45 z.2)).symm | exact (if_neg (fun z => by omega)).symm, by first | exact (if_pos ⟨by omega, c45⟩).symm | exact (if_neg (fun z => c45 z.2)).symm | exact (if_neg (fun z => by omega)).symm, by first | exact (if_pos ⟨by omega, c45⟩).symm | exact (if_neg (fun z => c45 z.2)).symm | exact (if_neg (fun z => by omega)).symm, by first | exact (if_pos ⟨by omega, c45⟩).symm | exact (if_neg (fun z => c45 z.2)).symm | exact (if_neg (fun z => by omega)).symm⟩) (hP.sub [2, 3, 0, 1] rfl) (hD.sub [2, 3, 0, 1] (by decide) rfl) hS dMod_open_96
        · have c45 := fun z => c45 ((lg_cmp_le _ _).mpr z)
          refine lv_iconst (v := (-1)) hx hb dMod_open_48 (by decide) ?_
          exact hret (-1) ((bal, nA, lc, z)) _ _ _ (⟨by first | exact (if_pos ⟨by omega, c45⟩).symm | exact (if_neg (fun z => c45 z.2)).symm | exact (if_neg (fun z => by omega)).symm, by first | exact (if_pos ⟨by omega, c45⟩).symm | exact (if_neg (fun z => c45 z.2)).symm | exact (if_neg (fun z => by omega)).symm, by first | exact (if_pos ⟨by omega, c45⟩).symm | exact (if_neg (fun z => c45 z.2)).symm | exact (if_neg (fun z => by omega)).symm, by first | exact (if_pos ⟨by omega, c45⟩).symm | exact (if_neg (fun z => c45 z.2)).symm | exact (if_neg (fun z => by omega)).symm, by first | exact (if_pos ⟨by omega, c45⟩).symm | exact (if_neg (fun z => c45 z.2)).symm | exact (if_neg (fun z => by omega)).symm⟩) (hP.sub [2, 3, 0, 1] rfl) (hD.sub [2, 3, 0, 1] (by decide) rfl) hS dMod_open_49
    · exact absurd c22 (by decide)
  · exact absurd (Int32.not_le.mp c7) hxa

set_option maxHeartbeats 4000000 in
set_option maxRecDepth 100000 in
theorem kM_codeX (l : Launch) (dC : Nat → ClassId) (dI : Nat → Nat → Nat) (kI kJ kZ : ClassId) (m0 : Nat) (b1 : Nat) (b2 : Nat) (b3 : Nat) (b4 : Nat) (b5 : Nat) (b6 : Nat) (b7 : Nat) (b8 : Nat) (b9 : Nat) (b10 : Nat) (b11 : Nat) (b12 : Nat) (b13 : Nat) (b14 : Nat) (b15 : Nat) (b16 : Nat) (b17 : Nat) (b18 : Nat) (b19 : Nat) (b20 : Nat) (b21 : Nat) (b22 : Nat) (b23 : Nat) (b24 : Nat) (nA : Nat) (kn : Nat) (ln : Nat) (an : Nat) (f0 : Int32) (f2 : Int32) (f3 : Int32) (f4 : Int32) (f5 : Int32) (f1 : Int32) (x : Int32) (w : Int32) (hnA : nA ≤ 24) (hxa : xHas nA x = false) :
    XM stX l yMod_code wMod_code { frames := 1, cells := 0, slots := 0, locals := 21 } (dC, dI) xCl (x_T kI kJ kZ) [(m0, .inr (6, [.int f0, .int (nI nA), .ref b1, .ref b2, .ref b3, .ref b4, .ref b5, .ref b6, .ref b7, .int (nI kn), .ref b8, .int (nI ln), .ref b9, .ref b10, .ref b11, .ref b12, .ref b13, .ref b14, .int f1, .ref b15, .ref b16, .ref b17, .ref b18, .ref b19, .ref b20, .ref b21, .ref b22, .ref b23, .ref b24, .int (nI an), .int f2, .int f3, .int f4, .int f5]))] [.ref m0, .int x, .int w] 0 0 x_eI (fun (r : Int32) (u : Unit) => r = 0) (fun (u : Unit) => [(m0, .inr (6, [.int 1, .int (nI nA), .ref b1, .ref b2, .ref b3, .ref b4, .ref b5, .ref b6, .ref b7, .int (nI kn), .ref b8, .int (nI ln), .ref b9, .ref b10, .ref b11, .ref b12, .ref b13, .ref b14, .int f1, .ref b15, .ref b16, .ref b17, .ref b18, .ref b19, .ref b20, .ref b21, .ref b22, .ref b23, .ref b24, .int (nI an), .int f2, .int f3, .int f4, .int f5]))]) := by
  refine XM.ofI (cc := cMod_code) (maxL := 3) (by decide) rfl (Nat.le_of_ble_eq_true rfl) ?_
  intro p e s m below meth c A Q hx hb hr hml hown hts hlocks hin hA hK hP hD hX hS ls hl hret
  have hl : lv_has ls 3 [(0, .ref m0), (1, .int x), (2, .int w)] := hl
  refine lv_aload_n hx hb dMod_code_0 rfl (lv_at hl 0 rfl) ?_
  refine lv_aload_n hx hb dMod_code_1 rfl (lv_at hl 0 rfl) ?_
  refine lv_iload_n hx hb dMod_code_2 rfl (lv_at hl 1 rfl) ?_
  refine XM.callVi (As := [.int x]) (rest := [.ref m0]) (wr := []) stX_ok ⟨hx, hb, hml, hown, hts⟩ (kM_noAcc l dC dI kI kJ kZ m0 b1 b2 b3 b4 b5 b6 b7 b8 b9 b10 b11 b12 b13 b14 b15 b16 b17 b18 b19 b20 b21 b22 b23 b24 nA kn ln an f0 f2 f3 f4 f5 f1 x ) (cwV 1 hts (x_gV gw765 gw767 gw19 gw43 gw768) rfl rfl rfl (by decide +kernel) ⟨Nat.le_of_ble_eq_true rfl, Nat.le_of_ble_eq_true rfl⟩) hK hP hD hS hA hX [0] [] rfl rfl (by decide) (by decide) (by decide) rfl rfl rfl rfl hl.1 (Nat.le_of_ble_eq_true rfl) dMod_code_3 ⟨Nat.le_of_ble_eq_true rfl, Nat.le_of_ble_eq_true rfl⟩ (fun r_2 u_1 H locs hw hP hD hS => ?_)
  obtain rfl := hw
  have hP : va_P (dC, dI) xCl [(m0, .inr (6, [.int f0, .int (nI nA), .ref b1, .ref b2, .ref b3, .ref b4, .ref b5, .ref b6, .ref b7, .int (nI kn), .ref b8, .int (nI ln), .ref b9, .ref b10, .ref b11, .ref b12, .ref b13, .ref b14, .int f1, .ref b15, .ref b16, .ref b17, .ref b18, .ref b19, .ref b20, .ref b21, .ref b22, .ref b23, .ref b24, .int (nI an), .int f2, .int f3, .int f4, .int f5]))] H := hP
  have hD : va_D A [(m0, .inr (6, [.int f0, .int (nI nA), .ref b1, .ref b2, .ref b3, .ref b4, .ref b5, .ref b6, .ref b7, .int (nI kn), .ref b8, .int (nI ln), .ref b9, .ref b10, .ref b11, .ref b12, .ref b13, .ref b14, .int f1, .ref b15, .ref b16, .ref b17, .ref b18, .ref b19, .ref b20, .ref b21, .ref b22, .ref b23, .ref b24, .int (nI an), .int f2, .int f3, .int f4, .int f5]))] := hD
  refine lv_if_eq (tgt := 13) hx hb dMod_code_6 (by decide) (fun c6 => ?_) (fun c6 => ?_)
  · have c6 : (xHas nA x = true) := x_i01.mp c6
    exact absurd c6 (by rw [hxa]; decide)
  · have c6 : xHas nA x = false := Bool.eq_false_iff.mpr (fun z9 => c6 (x_i01.mpr z9))
    refine lv_iconst (v := 1) hx hb dMod_code_9 (by decide) ?_
    refine lv_goto (tgt := 27) hx hb dMod_code_10 (by decide) ?_
    refine va_put (D := (dC, dI)) (ci := 6) (v := .int 1) (ty := .int) (C := RMod) (T := TMod) (N := 34) hx hb hts (fun w h => List.mem_cons_of_mem _ (layMod w h)) tyMod tykMod nmMod hown hK hP hD hS 0 rfl rfl 0 (by decide) (hts (.fieldLink RMod 83 "CallLedgerModel" "thrown" "I") (List.mem_cons_of_mem _ gw644)) (fun _ h9 => h9) rfl (by decide +kernel) rfl rfl (Nat.le_of_ble_eq_true rfl) dMod_code_27 (fun H locs hP hD hS => ?_)
    have hP : va_P (dC, dI) xCl [(m0, .inr (6, [.int 1, .int (nI nA), .ref b1, .ref b2, .ref b3, .ref b4, .ref b5, .ref b6, .ref b7, .int (nI kn), .ref b8, .int (nI ln), .ref b9, .ref b10, .ref b11, .ref b12, .ref b13, .ref b14, .int f1, .ref b15, .ref b16, .ref b17, .ref b18, .ref b19, .ref b20, .ref b21, .ref b22, .ref b23, .ref b24, .int (nI an), .int f2, .int f3, .int f4, .int f5]))] H := hP
    have hD : va_D A [(m0, .inr (6, [.int 1, .int (nI nA), .ref b1, .ref b2, .ref b3, .ref b4, .ref b5, .ref b6, .ref b7, .int (nI kn), .ref b8, .int (nI ln), .ref b9, .ref b10, .ref b11, .ref b12, .ref b13, .ref b14, .int f1, .ref b15, .ref b16, .ref b17, .ref b18, .ref b19, .ref b20, .ref b21, .ref b22, .ref b23, .ref b24, .int (nI an), .int f2, .int f3, .int f4, .int f5]))] := hD
    refine lv_aload_n hx hb dMod_code_30 rfl (lv_at hl 0 rfl) ?_
    refine va_get (D := (dC, dI)) (ci := 6) (v := .int 1) (C := RMod) (T := TMod) (N := 34) hx hb hts (fun w h => List.mem_cons_of_mem _ (layMod w h)) hown hK hP 0 rfl rfl 0 (by decide) (hts (.fieldLink RMod 83 "CallLedgerModel" "thrown" "I") (List.mem_cons_of_mem _ gw644)) (fun _ h9 => h9) rfl dMod_code_31 ?_
    refine lv_if_le (tgt := 39) hx hb dMod_code_34 (by decide) (fun c34 => ?_) (fun c34 => ?_)
    · exact absurd c34 (by decide)
    · refine lv_iconst (v := 0) hx hb dMod_code_37 (by decide) ?_
      exact hret 0 (()) _ _ _ (rfl) (hP.sub [0] rfl) (hD.sub [0] (by decide) rfl) hS dMod_code_38

set_option maxHeartbeats 4000000 in
set_option maxRecDepth 100000 in
theorem kM_codeY (l : Launch) (dC : Nat → ClassId) (dI : Nat → Nat → Nat) (kI kJ kZ : ClassId) (m0 : Nat) (b1 : Nat) (b2 : Nat) (b3 : Nat) (b4 : Nat) (b5 : Nat) (b6 : Nat) (b7 : Nat) (b8 : Nat) (b9 : Nat) (b10 : Nat) (b11 : Nat) (b12 : Nat) (b13 : Nat) (b14 : Nat) (b15 : Nat) (b16 : Nat) (b17 : Nat) (b18 : Nat) (b19 : Nat) (b20 : Nat) (b21 : Nat) (b22 : Nat) (b23 : Nat) (b24 : Nat) (nA : Nat) (kn : Nat) (ln : Nat) (an : Nat) (f0 : Int32) (f2 : Int32) (f3 : Int32) (f4 : Int32) (f5 : Int32) (f1 : Int32) (z : Nat → Bool) (a : Nat) (w : Int32) (hnA : nA ≤ 24) (ha : a < nA) (hz : z a = true) :
    XM stX l yMod_code wMod_code { frames := 1, cells := 0, slots := 0, locals := 21 } (dC, dI) xCl (x_T kI kJ kZ) [(m0, .inr (6, [.int f0, .int (nI nA), .ref b1, .ref b2, .ref b3, .ref b4, .ref b5, .ref b6, .ref b7, .int (nI kn), .ref b8, .int (nI ln), .ref b9, .ref b10, .ref b11, .ref b12, .ref b13, .ref b14, .int f1, .ref b15, .ref b16, .ref b17, .ref b18, .ref b19, .ref b20, .ref b21, .ref b22, .ref b23, .ref b24, .int (nI an), .int f2, .int f3, .int f4, .int f5])), (b4, .inl (kZ, 24, .inl (fun j => x_b (z j))))] [.ref m0, .int (nI a), .int w] 0 0 x_eI (fun (r : Int32) (u : Unit) => r = 0) (fun (u : Unit) => [(m0, .inr (6, [.int 2, .int (nI nA), .ref b1, .ref b2, .ref b3, .ref b4, .ref b5, .ref b6, .ref b7, .int (nI kn), .ref b8, .int (nI ln), .ref b9, .ref b10, .ref b11, .ref b12, .ref b13, .ref b14, .int f1, .ref b15, .ref b16, .ref b17, .ref b18, .ref b19, .ref b20, .ref b21, .ref b22, .ref b23, .ref b24, .int (nI an), .int f2, .int f3, .int f4, .int f5])), (b4, .inl (kZ, 24, .inl (fun j => x_b (z j))))]) := by
  refine XM.ofI (cc := cMod_code) (maxL := 3) (by decide) rfl (Nat.le_of_ble_eq_true rfl) ?_
  intro p e s m below meth c A Q hx hb hr hml hown hts hlocks hin hA hK hP hD hX hS ls hl hret
  have hl : lv_has ls 3 [(0, .ref m0), (1, .int (nI a)), (2, .int w)] := hl
  refine lv_aload_n hx hb dMod_code_0 rfl (lv_at hl 0 rfl) ?_
  refine lv_aload_n hx hb dMod_code_1 rfl (lv_at hl 0 rfl) ?_
  refine lv_iload_n hx hb dMod_code_2 rfl (lv_at hl 1 rfl) ?_
  refine XM.callVi (As := [.int (nI a)]) (rest := [.ref m0]) (wr := [(b4, .inl (kZ, 24, .inl (fun j => x_b (z j))))]) stX_ok ⟨hx, hb, hml, hown, hts⟩ (kM_noAcc l dC dI kI kJ kZ m0 b1 b2 b3 b4 b5 b6 b7 b8 b9 b10 b11 b12 b13 b14 b15 b16 b17 b18 b19 b20 b21 b22 b23 b24 nA kn ln an f0 f2 f3 f4 f5 f1 (nI a) ) (cwV 1 hts (x_gV gw765 gw767 gw19 gw43 gw768) rfl rfl rfl (by decide +kernel) ⟨Nat.le_of_ble_eq_true rfl, Nat.le_of_ble_eq_true rfl⟩) hK hP hD hS hA hX [0] [1] rfl rfl (by decide) (by decide) (by decide) rfl rfl rfl rfl hl.1 (Nat.le_of_ble_eq_true rfl) dMod_code_3 ⟨Nat.le_of_ble_eq_true rfl, Nat.le_of_ble_eq_true rfl⟩ (fun r_2 u_1 H locs hw hP hD hS => ?_)
  obtain rfl := hw
  have hP : va_P (dC, dI) xCl [(b4, .inl (kZ, 24, .inl (fun j => x_b (z j)))), (m0, .inr (6, [.int f0, .int (nI nA), .ref b1, .ref b2, .ref b3, .ref b4, .ref b5, .ref b6, .ref b7, .int (nI kn), .ref b8, .int (nI ln), .ref b9, .ref b10, .ref b11, .ref b12, .ref b13, .ref b14, .int f1, .ref b15, .ref b16, .ref b17, .ref b18, .ref b19, .ref b20, .ref b21, .ref b22, .ref b23, .ref b24, .int (nI an), .int f2, .int f3, .int f4, .int f5]))] H := hP
  have hD : va_D A [(b4, .inl (kZ, 24, .inl (fun j => x_b (z j)))), (m0, .inr (6, [.int f0, .int (nI nA), .ref b1, .ref b2, .ref b3, .ref b4, .ref b5, .ref b6, .ref b7, .int (nI kn), .ref b8, .int (nI ln), .ref b9, .ref b10, .ref b11, .ref b12, .ref b13, .ref b14, .int f1, .ref b15, .ref b16, .ref b17, .ref b18, .ref b19, .ref b20, .ref b21, .ref b22, .ref b23, .ref b24, .int (nI an), .int f2, .int f3, .int f4, .int f5]))] := hD
  refine lv_if_eq (tgt := 13) hx hb dMod_code_6 (by decide) (fun c6 => ?_) (fun c6 => ?_)
  · have c6 : (xHas nA (nI a) = true) := x_i01.mp c6
    refine lv_aload_n hx hb dMod_code_13 rfl (lv_at hl 0 rfl) ?_
    refine va_get (D := (dC, dI)) (ci := 6) (v := .ref b4) (C := RMod) (T := TMod) (N := 34) hx hb hts (fun w h => List.mem_cons_of_mem _ (layMod w h)) hown hK hP 1 rfl rfl 5 (by decide) (hts (.fieldLink RMod 19 "CallLedgerModel" "sealed0" "[Z") (List.mem_cons_of_mem _ gw649)) (fun _ h9 => h9) rfl dMod_code_14 ?_
    refine lv_iload_n hx hb dMod_code_17 rfl (lv_at hl 1 rfl) ?_
    refine x_zald (j := a) hx hb hK hP 0 2 rfl rfl rfl (by omega) (by omega) dMod_code_18 ?_
    refine lv_if_eq (tgt := 26) hx hb dMod_code_19 (by decide) (fun c19 => ?_) (fun c19 => ?_)
    · have c19 : (z a) = false := x_b0.mp c19
      exact absurd hz (by rw [c19]; decide)
    · have c19 : (z a) = true := Bool.of_not_eq_false (fun z9 => c19 (x_b0.mpr z9))
      refine lv_iconst (v := 2) hx hb dMod_code_22 (by decide) ?_
      refine lv_goto (tgt := 27) hx hb dMod_code_23 (by decide) ?_
      refine va_put (D := (dC, dI)) (ci := 6) (v := .int 2) (ty := .int) (C := RMod) (T := TMod) (N := 34) hx hb hts (fun w h => List.mem_cons_of_mem _ (layMod w h)) tyMod tykMod nmMod hown hK hP hD hS 1 rfl rfl 0 (by decide) (hts (.fieldLink RMod 83 "CallLedgerModel" "thrown" "I") (List.mem_cons_of_mem _ gw644)) (fun _ h9 => h9) rfl (by decide +kernel) rfl rfl (Nat.le_of_ble_eq_true rfl) dMod_code_27 (fun H locs hP hD hS => ?_)
      have hP : va_P (dC, dI) xCl [(b4, .inl (kZ, 24, .inl (fun j => x_b (z j)))), (m0, .inr (6, [.int 2, .int (nI nA), .ref b1, .ref b2, .ref b3, .ref b4, .ref b5, .ref b6, .ref b7, .int (nI kn), .ref b8, .int (nI ln), .ref b9, .ref b10, .ref b11, .ref b12, .ref b13, .ref b14, .int f1, .ref b15, .ref b16, .ref b17, .ref b18, .ref b19, .ref b20, .ref b21, .ref b22, .ref b23, .ref b24, .int (nI an), .int f2, .int f3, .int f4, .int f5]))] H := hP
      have hD : va_D A [(b4, .inl (kZ, 24, .inl (fun j => x_b (z j)))), (m0, .inr (6, [.int 2, .int (nI nA), .ref b1, .ref b2, .ref b3, .ref b4, .ref b5, .ref b6, .ref b7, .int (nI kn), .ref b8, .int (nI ln), .ref b9, .ref b10, .ref b11, .ref b12, .ref b13, .ref b14, .int f1, .ref b15, .ref b16, .ref b17, .ref b18, .ref b19, .ref b20, .ref b21, .ref b22, .ref b23, .ref b24, .int (nI an), .int f2, .int f3, .int f4, .int f5]))] := hD
      refine lv_aload_n hx hb dMod_code_30 rfl (lv_at hl 0 rfl) ?_
      refine va_get (D := (dC, dI)) (ci := 6) (v := .int 2) (C := RMod) (T := TMod) (N := 34) hx hb hts (fun w h => List.mem_cons_of_mem _ (layMod w h)) hown hK hP 1 rfl rfl 0 (by decide) (hts (.fieldLink RMod 83 "CallLedgerModel" "thrown" "I") (List.mem_cons_of_mem _ gw644)) (fun _ h9 => h9) rfl dMod_code_31 ?_
      refine lv_if_le (tgt := 39) hx hb dMod_code_34 (by decide) (fun c34 => ?_) (fun c34 => ?_)
      · exact absurd c34 (by decide)
      · refine lv_iconst (v := 0) hx hb dMod_code_37 (by decide) ?_
        exact hret 0 (()) _ _ _ (rfl) (hP.sub [1, 0] rfl) (hD.sub [1, 0] (by decide) rfl) hS dMod_code_38
  · have c6 : xHas nA (nI a) = false := Bool.eq_false_iff.mpr (fun z9 => c6 (x_i01.mpr z9))
    exact absurd (xHas_nI ha (by omega)) (by rw [c6]; decide)

set_option maxHeartbeats 4000000 in
set_option maxRecDepth 100000 in
theorem kM_sealX (l : Launch) (dC : Nat → ClassId) (dI : Nat → Nat → Nat) (kI kJ kZ : ClassId) (m0 : Nat) (b1 : Nat) (b2 : Nat) (b3 : Nat) (b4 : Nat) (b5 : Nat) (b6 : Nat) (b7 : Nat) (b8 : Nat) (b9 : Nat) (b10 : Nat) (b11 : Nat) (b12 : Nat) (b13 : Nat) (b14 : Nat) (b15 : Nat) (b16 : Nat) (b17 : Nat) (b18 : Nat) (b19 : Nat) (b20 : Nat) (b21 : Nat) (b22 : Nat) (b23 : Nat) (b24 : Nat) (nA : Nat) (kn : Nat) (ln : Nat) (an : Nat) (f0 : Int32) (f2 : Int32) (f3 : Int32) (f4 : Int32) (f5 : Int32) (f1 : Int32) (x : Int32) (hnA : nA ≤ 24) (hxa : xHas nA x = false) :
    XM stX l yMod_seal wMod_seal { frames := 1, cells := 0, slots := 0, locals := 21 } (dC, dI) xCl (x_T kI kJ kZ) [(m0, .inr (6, [.int f0, .int (nI nA), .ref b1, .ref b2, .ref b3, .ref b4, .ref b5, .ref b6, .ref b7, .int (nI kn), .ref b8, .int (nI ln), .ref b9, .ref b10, .ref b11, .ref b12, .ref b13, .ref b14, .int f1, .ref b15, .ref b16, .ref b17, .ref b18, .ref b19, .ref b20, .ref b21, .ref b22, .ref b23, .ref b24, .int (nI an), .int f2, .int f3, .int f4, .int f5]))] [.ref m0, .int x] 0 0 x_eI (fun (r : Int32) (u : Unit) => r = 0) (fun (u : Unit) => [(m0, .inr (6, [.int 1, .int (nI nA), .ref b1, .ref b2, .ref b3, .ref b4, .ref b5, .ref b6, .ref b7, .int (nI kn), .ref b8, .int (nI ln), .ref b9, .ref b10, .ref b11, .ref b12, .ref b13, .ref b14, .int f1, .ref b15, .ref b16, .ref b17, .ref b18, .ref b19, .ref b20, .ref b21, .ref b22, .ref b23, .ref b24, .int (nI an), .int f2, .int f3, .int f4, .int f5]))]) := by
  refine XM.ofI (cc := cMod_seal) (maxL := 3) (by decide) rfl (Nat.le_of_ble_eq_true rfl) ?_
  intro p e s m below meth c A Q hx hb hr hml hown hts hlocks hin hA hK hP hD hX hS ls hl hret
  have hl : lv_has ls 3 [(0, .ref m0), (1, .int x)] := hl
  refine lv_aload_n hx hb dMod_seal_0 rfl (lv_at hl 0 rfl) ?_
  refine lv_aload_n hx hb dMod_seal_1 rfl (lv_at hl 0 rfl) ?_
  refine lv_iload_n hx hb dMod_seal_2 rfl (lv_at hl 1 rfl) ?_
  refine XM.callVi (As := [.int x]) (rest := [.ref m0]) (wr := []) stX_ok ⟨hx, hb, hml, hown, hts⟩ (kM_noAcc l dC dI kI kJ kZ m0 b1 b2 b3 b4 b5 b6 b7 b8 b9 b10 b11 b12 b13 b14 b15 b16 b17 b18 b19 b20 b21 b22 b23 b24 nA kn ln an f0 f2 f3 f4 f5 f1 x ) (cwV 1 hts (x_gV gw765 gw767 gw19 gw43 gw768) rfl rfl rfl (by decide +kernel) ⟨Nat.le_of_ble_eq_true rfl, Nat.le_of_ble_eq_true rfl⟩) hK hP hD hS hA hX [0] [] rfl rfl (by decide) (by decide) (by decide) rfl rfl rfl rfl hl.1 (Nat.le_of_ble_eq_true rfl) dMod_seal_3 ⟨Nat.le_of_ble_eq_true rfl, Nat.le_of_ble_eq_true rfl⟩ (fun r_2 u_1 H locs hw hP hD hS => ?_)
  obtain rfl := hw
  have hP : va_P (dC, dI) xCl [(m0, .inr (6, [.int f0, .int (nI nA), .ref b1, .ref b2, .ref b3, .ref b4, .ref b5, .ref b6, .ref b7, .int (nI kn), .ref b8, .int (nI ln), .ref b9, .ref b10, .ref b11, .ref b12, .ref b13, .ref b14, .int f1, .ref b15, .ref b16, .ref b17, .ref b18, .ref b19, .ref b20, .ref b21, .ref b22, .ref b23, .ref b24, .int (nI an), .int f2, .int f3, .int f4, .int f5]))] H := hP
  have hD : va_D A [(m0, .inr (6, [.int f0, .int (nI nA), .ref b1, .ref b2, .ref b3, .ref b4, .ref b5, .ref b6, .ref b7, .int (nI kn), .ref b8, .int (nI ln), .ref b9, .ref b10, .ref b11, .ref b12, .ref b13, .ref b14, .int f1, .ref b15, .ref b16, .ref b17, .ref b18, .ref b19, .ref b20, .ref b21, .ref b22, .ref b23, .ref b24, .int (nI an), .int f2, .int f3, .int f4, .int f5]))] := hD
  refine lv_if_eq (tgt := 13) hx hb dMod_seal_6 (by decide) (fun c6 => ?_) (fun c6 => ?_)
  · have c6 : (xHas nA x = true) := x_i01.mp c6
    exact absurd c6 (by rw [hxa]; decide)
  · have c6 : xHas nA x = false := Bool.eq_false_iff.mpr (fun z9 => c6 (x_i01.mpr z9))
    refine lv_iconst (v := 1) hx hb dMod_seal_9 (by decide) ?_
    refine lv_goto (tgt := 27) hx hb dMod_seal_10 (by decide) ?_
    refine va_put (D := (dC, dI)) (ci := 6) (v := .int 1) (ty := .int) (C := RMod) (T := TMod) (N := 34) hx hb hts (fun w h => List.mem_cons_of_mem _ (layMod w h)) tyMod tykMod nmMod hown hK hP hD hS 0 rfl rfl 0 (by decide) (hts (.fieldLink RMod 83 "CallLedgerModel" "thrown" "I") (List.mem_cons_of_mem _ gw644)) (fun _ h9 => h9) rfl (by decide +kernel) rfl rfl (Nat.le_of_ble_eq_true rfl) dMod_seal_27 (fun H locs hP hD hS => ?_)
    have hP : va_P (dC, dI) xCl [(m0, .inr (6, [.int 1, .int (nI nA), .ref b1, .ref b2, .ref b3, .ref b4, .ref b5, .ref b6, .ref b7, .int (nI kn), .ref b8, .int (nI ln), .ref b9, .ref b10, .ref b11, .ref b12, .ref b13, .ref b14, .int f1, .ref b15, .ref b16, .ref b17, .ref b18, .ref b19, .ref b20, .ref b21, .ref b22, .ref b23, .ref b24, .int (nI an), .int f2, .int f3, .int f4, .int f5]))] H := hP
    have hD : va_D A [(m0, .inr (6, [.int 1, .int (nI nA), .ref b1, .ref b2, .ref b3, .ref b4, .ref b5, .ref b6, .ref b7, .int (nI kn), .ref b8, .int (nI ln), .ref b9, .ref b10, .ref b11, .ref b12, .ref b13, .ref b14, .int f1, .ref b15, .ref b16, .ref b17, .ref b18, .ref b19, .ref b20, .ref b21, .ref b22, .ref b23, .ref b24, .int (nI an), .int f2, .int f3, .int f4, .int f5]))] := hD
    refine lv_aload_n hx hb dMod_seal_30 rfl (lv_at hl 0 rfl) ?_
    refine va_get (D := (dC, dI)) (ci := 6) (v := .int 1) (C := RMod) (T := TMod) (N := 34) hx hb hts (fun w h => List.mem_cons_of_mem _ (layMod w h)) hown hK hP 0 rfl rfl 0 (by decide) (hts (.fieldLink RMod 83 "CallLedgerModel" "thrown" "I") (List.mem_cons_of_mem _ gw644)) (fun _ h9 => h9) rfl dMod_seal_31 ?_
    refine lv_if_le (tgt := 39) hx hb dMod_seal_34 (by decide) (fun c34 => ?_) (fun c34 => ?_)
    · exact absurd c34 (by decide)
    · refine lv_iconst (v := 0) hx hb dMod_seal_37 (by decide) ?_
      exact hret 0 (()) _ _ _ (rfl) (hP.sub [0] rfl) (hD.sub [0] (by decide) rfl) hS dMod_seal_38

set_option maxHeartbeats 4000000 in
set_option maxRecDepth 100000 in
theorem kM_sealY (l : Launch) (dC : Nat → ClassId) (dI : Nat → Nat → Nat) (kI kJ kZ : ClassId) (m0 : Nat) (b1 : Nat) (b2 : Nat) (b3 : Nat) (b4 : Nat) (b5 : Nat) (b6 : Nat) (b7 : Nat) (b8 : Nat) (b9 : Nat) (b10 : Nat) (b11 : Nat) (b12 : Nat) (b13 : Nat) (b14 : Nat) (b15 : Nat) (b16 : Nat) (b17 : Nat) (b18 : Nat) (b19 : Nat) (b20 : Nat) (b21 : Nat) (b22 : Nat) (b23 : Nat) (b24 : Nat) (nA : Nat) (kn : Nat) (ln : Nat) (an : Nat) (f0 : Int32) (f2 : Int32) (f3 : Int32) (f4 : Int32) (f5 : Int32) (f1 : Int32) (z : Nat → Bool) (a : Nat) (hnA : nA ≤ 24) (ha : a < nA) (hz : z a = true) :
    XM stX l yMod_seal wMod_seal { frames := 1, cells := 0, slots := 0, locals := 21 } (dC, dI) xCl (x_T kI kJ kZ) [(m0, .inr (6, [.int f0, .int (nI nA), .ref b1, .ref b2, .ref b3, .ref b4, .ref b5, .ref b6, .ref b7, .int (nI kn), .ref b8, .int (nI ln), .ref b9, .ref b10, .ref b11, .ref b12, .ref b13, .ref b14, .int f1, .ref b15, .ref b16, .ref b17, .ref b18, .ref b19, .ref b20, .ref b21, .ref b22, .ref b23, .ref b24, .int (nI an), .int f2, .int f3, .int f4, .int f5])), (b4, .inl (kZ, 24, .inl (fun j => x_b (z j))))] [.ref m0, .int (nI a)] 0 0 x_eI (fun (r : Int32) (u : Unit) => r = 0) (fun (u : Unit) => [(m0, .inr (6, [.int 2, .int (nI nA), .ref b1, .ref b2, .ref b3, .ref b4, .ref b5, .ref b6, .ref b7, .int (nI kn), .ref b8, .int (nI ln), .ref b9, .ref b10, .ref b11, .ref b12, .ref b13, .ref b14, .int f1, .ref b15, .ref b16, .ref b17, .ref b18, .ref b19, .ref b20, .ref b21, .ref b22, .ref b23, .ref b24, .int (nI an), .int f2, .int f3, .int f4, .int f5])), (b4, .inl (kZ, 24, .inl (fun j => x_b (z j))))]) := by
  refine XM.ofI (cc := cMod_seal) (maxL := 3) (by decide) rfl (Nat.le_of_ble_eq_true rfl) ?_
  intro p e s m below meth c A Q hx hb hr hml hown hts hlocks hin hA hK hP hD hX hS ls hl hret
  have hl : lv_has ls 3 [(0, .ref m0), (1, .int (nI a))] := hl
  refine lv_aload_n hx hb dMod_seal_0 rfl (lv_at hl 0 rfl) ?_
  refine lv_aload_n hx hb dMod_seal_1 rfl (lv_at hl 0 rfl) ?_
  refine lv_iload_n hx hb dMod_seal_2 rfl (lv_at hl 1 rfl) ?_
  refine XM.callVi (As := [.int (nI a)]) (rest := [.ref m0]) (wr := [(b4, .inl (kZ, 24, .inl (fun j => x_b (z j))))]) stX_ok ⟨hx, hb, hml, hown, hts⟩ (kM_noAcc l dC dI kI kJ kZ m0 b1 b2 b3 b4 b5 b6 b7 b8 b9 b10 b11 b12 b13 b14 b15 b16 b17 b18 b19 b20 b21 b22 b23 b24 nA kn ln an f0 f2 f3 f4 f5 f1 (nI a) ) (cwV 1 hts (x_gV gw765 gw767 gw19 gw43 gw768) rfl rfl rfl (by decide +kernel) ⟨Nat.le_of_ble_eq_true rfl, Nat.le_of_ble_eq_true rfl⟩) hK hP hD hS hA hX [0] [1] rfl rfl (by decide) (by decide) (by decide) rfl rfl rfl rfl hl.1 (Nat.le_of_ble_eq_true rfl) dMod_seal_3 ⟨Nat.le_of_ble_eq_true rfl, Nat.le_of_ble_eq_true rfl⟩ (fun r_2 u_1 H locs hw hP hD hS => ?_)
  obtain rfl := hw
  have hP : va_P (dC, dI) xCl [(b4, .inl (kZ, 24, .inl (fun j => x_b (z j)))), (m0, .inr (6, [.int f0, .int (nI nA), .ref b1, .ref b2, .ref b3, .ref b4, .ref b5, .ref b6, .ref b7, .int (nI kn), .ref b8, .int (nI ln), .ref b9, .ref b10, .ref b11, .ref b12, .ref b13, .ref b14, .int f1, .ref b15, .ref b16, .ref b17, .ref b18, .ref b19, .ref b20, .ref b21, .ref b22, .ref b23, .ref b24, .int (nI an), .int f2, .int f3, .int f4, .int f5]))] H := hP
  have hD : va_D A [(b4, .inl (kZ, 24, .inl (fun j => x_b (z j)))), (m0, .inr (6, [.int f0, .int (nI nA), .ref b1, .ref b2, .ref b3, .ref b4, .ref b5, .ref b6, .ref b7, .int (nI kn), .ref b8, .int (nI ln), .ref b9, .ref b10, .ref b11, .ref b12, .ref b13, .ref b14, .int f1, .ref b15, .ref b16, .ref b17, .ref b18, .ref b19, .ref b20, .ref b21, .ref b22, .ref b23, .ref b24, .int (nI an), .int f2, .int f3, .int f4, .int f5]))] := hD
  refine lv_if_eq (tgt := 13) hx hb dMod_seal_6 (by decide) (fun c6 => ?_) (fun c6 => ?_)
  · have c6 : (xHas nA (nI a) = true) := x_i01.mp c6
    refine lv_aload_n hx hb dMod_seal_13 rfl (lv_at hl 0 rfl) ?_
    refine va_get (D := (dC, dI)) (ci := 6) (v := .ref b4) (C := RMod) (T := TMod) (N := 34) hx hb hts (fun w h => List.mem_cons_of_mem _ (layMod w h)) hown hK hP 1 rfl rfl 5 (by decide) (hts (.fieldLink RMod 19 "CallLedgerModel" "sealed0" "[Z") (List.mem_cons_of_mem _ gw649)) (fun _ h9 => h9) rfl dMod_seal_14 ?_
    refine lv_iload_n hx hb dMod_seal_17 rfl (lv_at hl 1 rfl) ?_
    refine x_zald (j := a) hx hb hK hP 0 2 rfl rfl rfl (by omega) (by omega) dMod_seal_18 ?_
    refine lv_if_eq (tgt := 26) hx hb dMod_seal_19 (by decide) (fun c19 => ?_) (fun c19 => ?_)
    · have c19 : (z a) = false := x_b0.mp c19
      exact absurd hz (by rw [c19]; decide)
    · have c19 : (z a) = true := Bool.of_not_eq_false (fun z9 => c19 (x_b0.mpr z9))
      refine lv_iconst (v := 2) hx hb dMod_seal_22 (by decide) ?_
      refine lv_goto (tgt := 27) hx hb dMod_seal_23 (by decide) ?_
      refine va_put (D := (dC, dI)) (ci := 6) (v := .int 2) (ty := .int) (C := RMod) (T := TMod) (N := 34) hx hb hts (fun w h => List.mem_cons_of_mem _ (layMod w h)) tyMod tykMod nmMod hown hK hP hD hS 1 rfl rfl 0 (by decide) (hts (.fieldLink RMod 83 "CallLedgerModel" "thrown" "I") (List.mem_cons_of_mem _ gw644)) (fun _ h9 => h9) rfl (by decide +kernel) rfl rfl (Nat.le_of_ble_eq_true rfl) dMod_seal_27 (fun H locs hP hD hS => ?_)
      have hP : va_P (dC, dI) xCl [(b4, .inl (kZ, 24, .inl (fun j => x_b (z j)))), (m0, .inr (6, [.int 2, .int (nI nA), .ref b1, .ref b2, .ref b3, .ref b4, .ref b5, .ref b6, .ref b7, .int (nI kn), .ref b8, .int (nI ln), .ref b9, .ref b10, .ref b11, .ref b12, .ref b13, .ref b14, .int f1, .ref b15, .ref b16, .ref b17, .ref b18, .ref b19, .ref b20, .ref b21, .ref b22, .ref b23, .ref b24, .int (nI an), .int f2, .int f3, .int f4, .int f5]))] H := hP
      have hD : va_D A [(b4, .inl (kZ, 24, .inl (fun j => x_b (z j)))), (m0, .inr (6, [.int 2, .int (nI nA), .ref b1, .ref b2, .ref b3, .ref b4, .ref b5, .ref b6, .ref b7, .int (nI kn), .ref b8, .int (nI ln), .ref b9, .ref b10, .ref b11, .ref b12, .ref b13, .ref b14, .int f1, .ref b15, .ref b16, .ref b17, .ref b18, .ref b19, .ref b20, .ref b21, .ref b22, .ref b23, .ref b24, .int (nI an), .int f2, .int f3, .int f4, .int f5]))] := hD
      refine lv_aload_n hx hb dMod_seal_30 rfl (lv_at hl 0 rfl) ?_
      refine va_get (D := (dC, dI)) (ci := 6) (v := .int 2) (C := RMod) (T := TMod) (N := 34) hx hb hts (fun w h => List.mem_cons_of_mem _ (layMod w h)) hown hK hP 1 rfl rfl 0 (by decide) (hts (.fieldLink RMod 83 "CallLedgerModel" "thrown" "I") (List.mem_cons_of_mem _ gw644)) (fun _ h9 => h9) rfl dMod_seal_31 ?_
      refine lv_if_le (tgt := 39) hx hb dMod_seal_34 (by decide) (fun c34 => ?_) (fun c34 => ?_)
      · exact absurd c34 (by decide)
      · refine lv_iconst (v := 0) hx hb dMod_seal_37 (by decide) ?_
        exact hret 0 (()) _ _ _ (rfl) (hP.sub [1, 0] rfl) (hD.sub [1, 0] (by decide) rfl) hS dMod_seal_38
  · have c6 : xHas nA (nI a) = false := Bool.eq_false_iff.mpr (fun z9 => c6 (x_i01.mpr z9))
    exact absurd (xHas_nI ha (by omega)) (by rw [c6]; decide)

set_option maxHeartbeats 4000000 in
set_option maxRecDepth 100000 in
theorem kM_code (l : Launch) (dC : Nat → ClassId) (dI : Nat → Nat → Nat) (kI kJ kZ : ClassId) (m0 : Nat) (b1 : Nat) (b2 : Nat) (b3 : Nat) (b4 : Nat) (b5 : Nat) (b6 : Nat) (b7 : Nat) (b8 : Nat) (b9 : Nat) (b10 : Nat) (b11 : Nat) (b12 : Nat) (b13 : Nat) (b14 : Nat) (b15 : Nat) (b16 : Nat) (b17 : Nat) (b18 : Nat) (b19 : Nat) (b20 : Nat) (b21 : Nat) (b22 : Nat) (b23 : Nat) (b24 : Nat) (nA : Nat) (kn : Nat) (ln : Nat) (an : Nat) (f0 : Int32) (f2 : Int32) (f3 : Int32) (f4 : Int32) (f5 : Int32) (f1 : Int32) (cw : Nat → Int32) (lc : Nat → Nat) (z : Nat → Bool) (a : Nat) (w : Int32) (hnA : nA ≤ 24) (ha : a < nA) (hln : ∀ j, j < 24 → lc j ≤ 160) (hz : z a = false) :
    XM stX l yMod_code wMod_code { frames := 1, cells := 0, slots := 0, locals := 21 } (dC, dI) xCl (x_T kI kJ kZ) [(m0, .inr (6, [.int f0, .int (nI nA), .ref b1, .ref b2, .ref b3, .ref b4, .ref b5, .ref b6, .ref b7, .int (nI kn), .ref b8, .int (nI ln), .ref b9, .ref b10, .ref b11, .ref b12, .ref b13, .ref b14, .int f1, .ref b15, .ref b16, .ref b17, .ref b18, .ref b19, .ref b20, .ref b21, .ref b22, .ref b23, .ref b24, .int (nI an), .int f2, .int f3, .int f4, .int f5])), (b2, .inl (kI, 3840, .inl cw)), (b3, .inl (kI, 24, .inl (fun j => nI (lc j)))), (b4, .inl (kZ, 24, .inl (fun j => x_b (z j))))] [.ref m0, .int (nI a), .int w] 0 0 x_eI (fun (r : Int32) (u : (Nat → Int32) × (Nat → Nat)) => (r = if lc a < 160 then nI (lc a + 1) else -1) ∧ (u.1 = if lc a < 160 then upd cw (a * 160 + lc a) w else cw) ∧ (u.2 = if lc a < 160 then va_up lc a (lc a + 1) else lc)) (fun (u : (Nat → Int32) × (Nat → Nat)) => [(m0, .inr (6, [.int 0, .int (nI nA), .ref b1, .ref b2, .ref b3, .ref b4, .ref b5, .ref b6, .ref b7, .int (nI kn), .ref b8, .int (nI ln), .ref b9, .ref b10, .ref b11, .ref b12, .ref b13, .ref b14, .int f1, .ref b15, .ref b16, .ref b17, .ref b18, .ref b19, .ref b20, .ref b21, .ref b22, .ref b23, .ref b24, .int (nI an), .int f2, .int f3, .int f4, .int f5])), (b2, .inl (kI, 3840, .inl u.1)), (b3, .inl (kI, 24, .inl (fun j => nI (u.2 j)))), (b4, .inl (kZ, 24, .inl (fun j => x_b (z j))))]) := by
  refine XM.ofI (cc := cMod_code) (maxL := 3) (by decide) rfl (Nat.le_of_ble_eq_true rfl) ?_
  intro p e s m below meth c A Q hx hb hr hml hown hts hlocks hin hA hK hP hD hX hS ls hl hret
  have hl : lv_has ls 3 [(0, .ref m0), (1, .int (nI a)), (2, .int w)] := hl
  have hla := hln a (by omega)
  refine lv_aload_n hx hb dMod_code_0 rfl (lv_at hl 0 rfl) ?_
  refine lv_aload_n hx hb dMod_code_1 rfl (lv_at hl 0 rfl) ?_
  refine lv_iload_n hx hb dMod_code_2 rfl (lv_at hl 1 rfl) ?_
  refine XM.callVi (As := [.int (nI a)]) (rest := [.ref m0]) (wr := [(b2, .inl (kI, 3840, .inl cw)), (b3, .inl (kI, 24, .inl (fun j => nI (lc j)))), (b4, .inl (kZ, 24, .inl (fun j => x_b (z j))))]) stX_ok ⟨hx, hb, hml, hown, hts⟩ (kM_noAcc l dC dI kI kJ kZ m0 b1 b2 b3 b4 b5 b6 b7 b8 b9 b10 b11 b12 b13 b14 b15 b16 b17 b18 b19 b20 b21 b22 b23 b24 nA kn ln an f0 f2 f3 f4 f5 f1 (nI a) ) (cwV 1 hts (x_gV gw765 gw767 gw19 gw43 gw768) rfl rfl rfl (by decide +kernel) ⟨Nat.le_of_ble_eq_true rfl, Nat.le_of_ble_eq_true rfl⟩) hK hP hD hS hA hX [0] [1, 2, 3] rfl rfl (by decide) (by decide) (by decide) rfl rfl rfl rfl hl.1 (Nat.le_of_ble_eq_true rfl) dMod_code_3 ⟨Nat.le_of_ble_eq_true rfl, Nat.le_of_ble_eq_true rfl⟩ (fun r_2 u_1 H locs hw hP hD hS => ?_)
  obtain rfl := hw
  have hP : va_P (dC, dI) xCl [(b2, .inl (kI, 3840, .inl cw)), (b3, .inl (kI, 24, .inl (fun j => nI (lc j)))), (b4, .inl (kZ, 24, .inl (fun j => x_b (z j)))), (m0, .inr (6, [.int f0, .int (nI nA), .ref b1, .ref b2, .ref b3, .ref b4, .ref b5, .ref b6, .ref b7, .int (nI kn), .ref b8, .int (nI ln), .ref b9, .ref b10, .ref b11, .ref b12, .ref b13, .ref b14, .int f1, .ref b15, .ref b16, .ref b17, .ref b18, .ref b19, .ref b20, .ref b21, .ref b22, .ref b23, .ref b24, .int (nI an), .int f2, .int f3, .int f4, .int f5]))] H := hP
  have hD : va_D A [(b2, .inl (kI, 3840, .inl cw)), (b3, .inl (kI, 24, .inl (fun j => nI (lc j)))), (b4, .inl (kZ, 24, .inl (fun j => x_b (z j)))), (m0, .inr (6, [.int f0, .int (nI nA), .ref b1, .ref b2, .ref b3, .ref b4, .ref b5, .ref b6, .ref b7, .int (nI kn), .ref b8, .int (nI ln), .ref b9, .ref b10, .ref b11, .ref b12, .ref b13, .ref b14, .int f1, .ref b15, .ref b16, .ref b17, .ref b18, .ref b19, .ref b20, .ref b21, .ref b22, .ref b23, .ref b24, .int (nI an), .int f2, .int f3, .int f4, .int f5]))] := hD
  refine lv_if_eq (tgt := 13) hx hb dMod_code_6 (by decide) (fun c6 => ?_) (fun c6 => ?_)
  · have c6 : (xHas nA (nI a) = true) := x_i01.mp c6
    refine lv_aload_n hx hb dMod_code_13 rfl (lv_at hl 0 rfl) ?_
    refine va_get (D := (dC, dI)) (ci := 6) (v := .ref b4) (C := RMod) (T := TMod) (N := 34) hx hb hts (fun w h => List.mem_cons_of_mem _ (layMod w h)) hown hK hP 3 rfl rfl 5 (by decide) (hts (.fieldLink RMod 19 "CallLedgerModel" "sealed0" "[Z") (List.mem_cons_of_mem _ gw649)) (fun _ h9 => h9) rfl dMod_code_14 ?_
    refine lv_iload_n hx hb dMod_code_17 rfl (lv_at hl 1 rfl) ?_
    refine x_zald (j := a) hx hb hK hP 2 2 rfl rfl rfl (by omega) (by omega) dMod_code_18 ?_
    refine lv_if_eq (tgt := 26) hx hb dMod_code_19 (by decide) (fun c19 => ?_) (fun c19 => ?_)
    · have c19 : (z a) = false := x_b0.mp c19
      refine lv_iconst (v := 0) hx hb dMod_code_26 (by decide) ?_
      refine va_put (D := (dC, dI)) (ci := 6) (v := .int 0) (ty := .int) (C := RMod) (T := TMod) (N := 34) hx hb hts (fun w h => List.mem_cons_of_mem _ (layMod w h)) tyMod tykMod nmMod hown hK hP hD hS 3 rfl rfl 0 (by decide) (hts (.fieldLink RMod 83 "CallLedgerModel" "thrown" "I") (List.mem_cons_of_mem _ gw644)) (fun _ h9 => h9) rfl (by decide +kernel) rfl rfl (Nat.le_of_ble_eq_true rfl) dMod_code_27 (fun H locs hP hD hS => ?_)
      have hP : va_P (dC, dI) xCl [(b2, .inl (kI, 3840, .inl cw)), (b3, .inl (kI, 24, .inl (fun j => nI (lc j)))), (b4, .inl (kZ, 24, .inl (fun j => x_b (z j)))), (m0, .inr (6, [.int 0, .int (nI nA), .ref b1, .ref b2, .ref b3, .ref b4, .ref b5, .ref b6, .ref b7, .int (nI kn), .ref b8, .int (nI ln), .ref b9, .ref b10, .ref b11, .ref b12, .ref b13, .ref b14, .int f1, .ref b15, .ref b16, .ref b17, .ref b18, .ref b19, .ref b20, .ref b21, .ref b22, .ref b23, .ref b24, .int (nI an), .int f2, .int f3, .int f4, .int f5]))] H := hP
      have hD : va_D A [(b2, .inl (kI, 3840, .inl cw)), (b3, .inl (kI, 24, .inl (fun j => nI (lc j)))), (b4, .inl (kZ, 24, .inl (fun j => x_b (z j)))), (m0, .inr (6, [.int 0, .int (nI nA), .ref b1, .ref b2, .ref b3, .ref b4, .ref b5, .ref b6, .ref b7, .int (nI kn), .ref b8, .int (nI ln), .ref b9, .ref b10, .ref b11, .ref b12, .ref b13, .ref b14, .int f1, .ref b15, .ref b16, .ref b17, .ref b18, .ref b19, .ref b20, .ref b21, .ref b22, .ref b23, .ref b24, .int (nI an), .int f2, .int f3, .int f4, .int f5]))] := hD
      refine lv_aload_n hx hb dMod_code_30 rfl (lv_at hl 0 rfl) ?_
      refine va_get (D := (dC, dI)) (ci := 6) (v := .int 0) (C := RMod) (T := TMod) (N := 34) hx hb hts (fun w h => List.mem_cons_of_mem _ (layMod w h)) hown hK hP 3 rfl rfl 0 (by decide) (hts (.fieldLink RMod 83 "CallLedgerModel" "thrown" "I") (List.mem_cons_of_mem _ gw644)) (fun _ h9 => h9) rfl dMod_code_31 ?_
      refine lv_if_le (tgt := 39) hx hb dMod_code_34 (by decide) (fun c34 => ?_) (fun c34 => ?_)
      · refine lv_aload_n hx hb dMod_code_39 rfl (lv_at hl 0 rfl) ?_
        refine va_get (D := (dC, dI)) (ci := 6) (v := .ref b3) (C := RMod) (T := TMod) (N := 34) hx hb hts (fun w h => List.mem_cons_of_mem _ (layMod w h)) hown hK hP 3 rfl rfl 4 (by decide) (hts (.fieldLink RMod 16 "CallLedgerModel" "lengths" "[I") (List.mem_cons_of_mem _ gw648)) (fun _ h9 => h9) rfl dMod_code_40 ?_
        refine lv_iload_n hx hb dMod_code_43 rfl (lv_at hl 1 rfl) ?_
        refine x_iald (j := a) hx hb hK hP 1 0 rfl rfl rfl (by omega) (by omega) dMod_code_44 ?_
        refine lv_sipush (v := 160) hx hb dMod_code_45 (by decide) ?_
        refine lv_icmp_ne (tgt := 53) hx hb dMod_code_48 (by decide) (fun c48 => ?_) (fun c48 => ?_)
        · have c48 : ¬ ((lc a) = 160) := fun z9 => c48 ((nI_eq (a := (lc a)) (b := 160) (by omega) (by omega)).mpr z9)
          refine lv_aload_n hx hb dMod_code_53 rfl (lv_at hl 0 rfl) ?_
          refine va_get (D := (dC, dI)) (ci := 6) (v := .ref b2) (C := RMod) (T := TMod) (N := 34) hx hb hts (fun w h => List.mem_cons_of_mem _ (layMod w h)) hown hK hP 3 rfl rfl 3 (by decide) (hts (.fieldLink RMod 13 "CallLedgerModel" "codes" "[I") (List.mem_cons_of_mem _ gw647)) (fun _ h9 => h9) rfl dMod_code_54 ?_
          refine lv_sipush (v := 160) hx hb dMod_code_57 (by decide) ?_
          refine lv_iload_n hx hb dMod_code_60 rfl (lv_at hl 1 rfl) ?_
          refine lv_imul hx hb dMod_code_61 ?_
          refine x_topi (y := nI (160 * a)) (x_mul160) ?_
          refine lv_aload_n hx hb dMod_code_62 rfl (lv_at hl 0 rfl) ?_
          refine va_get (D := (dC, dI)) (ci := 6) (v := .ref b3) (C := RMod) (T := TMod) (N := 34) hx hb hts (fun w h => List.mem_cons_of_mem _ (layMod w h)) hown hK hP 3 rfl rfl 4 (by decide) (hts (.fieldLink RMod 16 "CallLedgerModel" "lengths" "[I") (List.mem_cons_of_mem _ gw648)) (fun _ h9 => h9) rfl dMod_code_63 ?_
          refine lv_iload_n hx hb dMod_code_66 rfl (lv_at hl 1 rfl) ?_
          refine x_iald (j := a) hx hb hK hP 1 0 rfl rfl rfl (by omega) (by omega) dMod_code_67 ?_
          refine lv_iadd hx hb dMod_code_68 ?_
          refine x_topi (y := nI (160 * a + lc a)) (nI_add _ _) ?_
          refine x_topi (y := nI (a * 160 + lc a)) (by rw [Nat.mul_comm]) ?_
          refine lv_iload_n hx hb dMod_code_69 rfl (lv_at hl 2 rfl) ?_
          refine x_iast (j := a * 160 + lc a) hx hb hK hP hD hS 0 0 rfl rfl rfl (by omega) (by omega) dMod_code_70 (fun H locs hP hD hS => ?_)
          have hP : va_P (dC, dI) xCl [(b2, .inl (kI, 3840, .inl (upd cw (a * 160 + lc a) w))), (b3, .inl (kI, 24, .inl (fun j => nI (lc j)))), (b4, .inl (kZ, 24, .inl (fun j => x_b (z j)))), (m0, .inr (6, [.int 0, .int (nI nA), .ref b1, .ref b2, .ref b3, .ref b4, .ref b5, .ref b6, .ref b7, .int (nI kn), .ref b8, .int (nI ln), .ref b9, .ref b10, .ref b11, .ref b12, .ref b13, .ref b14, .int f1, .ref b15, .ref b16, .ref b17, .ref b18, .ref b19, .ref b20, .ref b21, .ref b22, .ref b23, .ref b24, .int (nI an), .int f2, .int f3, .int f4, .int f5]))] H := hP
          have hD : va_D A [(b2, .inl (kI, 3840, .inl (upd cw (a * 160 + lc a) w))), (b3, .inl (kI, 24, .inl (fun j => nI (lc j)))), (b4, .inl (kZ, 24, .inl (fun j => x_b (z j)))), (m0, .inr (6, [.int 0, .int (nI nA), .ref b1, .ref b2, .ref b3, .ref b4, .ref b5, .ref b6, .ref b7, .int (nI kn), .ref b8, .int (nI ln), .ref b9, .ref b10, .ref b11, .ref b12, .ref b13, .ref b14, .int f1, .ref b15, .ref b16, .ref b17, .ref b18, .ref b19, .ref b20, .ref b21, .ref b22, .ref b23, .ref b24, .int (nI an), .int f2, .int f3, .int f4, .int f5]))] := hD
          refine lv_aload_n hx hb dMod_code_71 rfl (lv_at hl 0 rfl) ?_
          refine va_get (D := (dC, dI)) (ci := 6) (v := .ref b3) (C := RMod) (T := TMod) (N := 34) hx hb hts (fun w h => List.mem_cons_of_mem _ (layMod w h)) hown hK hP 3 rfl rfl 4 (by decide) (hts (.fieldLink RMod 16 "CallLedgerModel" "lengths" "[I") (List.mem_cons_of_mem _ gw648)) (fun _ h9 => h9) rfl dMod_code_72 ?_
          refine lv_iload_n hx hb dMod_code_75 rfl (lv_at hl 1 rfl) ?_
          refine lv_dup2_11 hx hb dMod_code_76 rfl rfl ?_
          refine x_iald (j := a) hx hb hK hP 1 0 rfl rfl rfl (by omega) (by omega) dMod_code_77 ?_
          refine lv_iconst (v := 1) hx hb dMod_code_78 (by decide) ?_
          refine lv_iadd hx hb dMod_code_79 ?_
          refine x_topi (y := nI (lc a + 1)) (nI_1 _) ?_
          refine x_iast (j := a) hx hb hK hP hD hS 1 0 rfl rfl rfl (by omega) (by omega) dMod_code_80 (fun H locs hP hD hS => ?_)
          have hP : va_P (dC, dI) xCl [(b2, .inl (kI, 3840, .inl (upd cw (a * 160 + lc a) w))), (b3, .inl (kI, 24, .inl (upd (fun j => nI (lc j)) a (nI (lc a + 1))))), (b4, .inl (kZ, 24, .inl (fun j => x_b (z j)))), (m0, .inr (6, [.int 0, .int (nI nA), .ref b1, .ref b2, .ref b3, .ref b4, .ref b5, .ref b6, .ref b7, .int (nI kn), .ref b8, .int (nI ln), .ref b9, .ref b10, .ref b11, .ref b12, .ref b13, .ref b14, .int f1, .ref b15, .ref b16, .ref b17, .ref b18, .ref b19, .ref b20, .ref b21, .ref b22, .ref b23, .ref b24, .int (nI an), .int f2, .int f3, .int f4, .int f5]))] H := hP
          have hD : va_D A [(b2, .inl (kI, 3840, .inl (upd cw (a * 160 + lc a) w))), (b3, .inl (kI, 24, .inl (upd (fun j => nI (lc j)) a (nI (lc a + 1))))), (b4, .inl (kZ, 24, .inl (fun j => x_b (z j)))), (m0, .inr (6, [.int 0, .int (nI nA), .ref b1, .ref b2, .ref b3, .ref b4, .ref b5, .ref b6, .ref b7, .int (nI kn), .ref b8, .int (nI ln), .ref b9, .ref b10, .ref b11, .ref b12, .ref b13, .ref b14, .int f1, .ref b15, .ref b16, .ref b17, .ref b18, .ref b19, .ref b20, .ref b21, .ref b22, .ref b23, .ref b24, .int (nI an), .int f2, .int f3, .int f4, .int f5]))] := hD
          rw [x_updL] at hP hD
          have hP : va_P (dC, dI) xCl [(b2, .inl (kI, 3840, .inl (upd cw (a * 160 + lc a) w))), (b3, .inl (kI, 24, .inl (fun j => nI (va_up lc a (lc a + 1) j)))), (b4, .inl (kZ, 24, .inl (fun j => x_b (z j)))), (m0, .inr (6, [.int 0, .int (nI nA), .ref b1, .ref b2, .ref b3, .ref b4, .ref b5, .ref b6, .ref b7, .int (nI kn), .ref b8, .int (nI ln), .ref b9, .ref b10, .ref b11, .ref b12, .ref b13, .ref b14, .int f1, .ref b15, .ref b16, .ref b17, .ref b18, .ref b19, .ref b20, .ref b21, .ref b22, .ref b23, .ref b24, .int (nI an), .int f2, .int f3, .int f4, .int f5]))] H := hP
          have hD : va_D A [(b2, .inl (kI, 3840, .inl (upd cw (a * 160 + lc a) w))), (b3, .inl (kI, 24, .inl (fun j => nI (va_up lc a (lc a + 1) j)))), (b4, .inl (kZ, 24, .inl (fun j => x_b (z j)))), (m0, .inr (6, [.int 0, .int (nI nA), .ref b1, .ref b2, .ref b3, .ref b4, .ref b5, .ref b6, .ref b7, .int (nI kn), .ref b8, .int (nI ln), .ref b9, .ref b10, .ref b11, .ref b12, .ref b13, .ref b14, .int f1, .ref b15, .ref b16, .ref b17, .ref b18, .ref b19, .ref b20, .ref b21, .ref b22, .ref b23, .ref b24, .int (nI an), .int f2, .int f3, .int f4, .int f5]))] := hD
          refine lv_aload_n hx hb dMod_code_81 rfl (lv_at hl 0 rfl) ?_
          refine va_get (D := (dC, dI)) (ci := 6) (v := .ref b3) (C := RMod) (T := TMod) (N := 34) hx hb hts (fun w h => List.mem_cons_of_mem _ (layMod w h)) hown hK hP 3 rfl rfl 4 (by decide) (hts (.fieldLink RMod 16 "CallLedgerModel" "lengths" "[I") (List.mem_cons_of_mem _ gw648)) (fun _ h9 => h9) rfl dMod_code_82 ?_
          refine lv_iload_n hx hb dMod_code_85 rfl (lv_at hl 1 rfl) ?_
          refine x_iald (j := a) hx hb hK hP 1 0 rfl rfl rfl (by omega) (by omega) dMod_code_86 ?_
          refine x_topi (y := nI (lc a + 1)) (by show nI (va_up lc a (lc a + 1) a) = _; simp [va_up]) ?_
          exact hret (nI (lc a + 1)) ((upd cw (a * 160 + lc a) w, va_up lc a (lc a + 1))) _ _ _ (⟨by first | exact (if_pos (by omega)).symm | exact (if_neg (by omega)).symm, by first | exact (if_pos (by omega)).symm | exact (if_neg (by omega)).symm, by first | exact (if_pos (by omega)).symm | exact (if_neg (by omega)).symm⟩) (hP.sub [3, 0, 1, 2] rfl) (hD.sub [3, 0, 1, 2] (by decide) rfl) hS dMod_code_87
        · have c48 : (lc a) = 160 := (nI_eq (a := (lc a)) (b := 160) (by omega) (by omega)).mp c48
          refine lv_iconst (v := (-1)) hx hb dMod_code_51 (by decide) ?_
          exact hret (-1) ((cw, lc)) _ _ _ (⟨by first | exact (if_pos (by omega)).symm | exact (if_neg (by omega)).symm, by first | exact (if_pos (by omega)).symm | exact (if_neg (by omega)).symm, by first | exact (if_pos (by omega)).symm | exact (if_neg (by omega)).symm⟩) (hP.sub [3, 0, 1, 2] rfl) (hD.sub [3, 0, 1, 2] (by decide) rfl) hS dMod_code_52
      · exact absurd c34 (by decide)
    · have c19 : (z a) = true := Bool.of_not_eq_false (fun z9 => c19 (x_b0.mpr z9))
      exact absurd hz (by rw [c19]; decide)
  · have c6 : xHas nA (nI a) = false := Bool.eq_false_iff.mpr (fun z9 => c6 (x_i01.mpr z9))
    exact absurd (xHas_nI ha (by omega)) (by rw [c6]; decide)

set_option maxHeartbeats 4000000 in
set_option maxRecDepth 100000 in
theorem kM_isGood (l : Launch) (dC : Nat → ClassId) (dI : Nat → Nat → Nat) (kI kJ kZ : ClassId) (w : Int32) (len : Nat)  :
    XM stX l yMod_isGood wMod_isGood { frames := 0, cells := 0, slots := 0, locals := 0 } (dC, dI) xCl (x_T kI kJ kZ) [] [.int w, .int (nI len)] 0 0 x_eI (fun (r : Int32) (u : Unit) => r = x_b (wGood w len)) (fun (u : Unit) => []) := by
  refine XM.ofZ (cc := cMod_isGood) (maxL := 4) (by decide) rfl (Nat.le_of_ble_eq_true rfl) ?_
  intro p e s m below meth c A Q hx hb hr hml hown hts hlocks hin hA hK hP hD hX hS ls hl hret
  have hl : lv_has ls 4 [(0, .int w), (1, .int (nI len))] := hl
  refine lv_iload_n hx hb dMod_isGood_0 rfl (lv_at hl 0 rfl) ?_
  refine lv_sipush (v := 255) hx hb dMod_isGood_1 (by decide) ?_
  refine lv_iand hx hb dMod_isGood_4 ?_
  refine x_topi (y := wI w) (rfl) ?_
  refine lv_istore_n (lv' := [(2, .int (wI w)), (0, .int w), (1, .int (nI len))]) hx hb dMod_isGood_5 rfl hl (by decide) rfl (fun ls hl => ?_)
  refine lv_iload_n hx hb dMod_isGood_6 rfl (lv_at hl 1 rfl) ?_
  refine lv_bipush (v := 8) hx hb dMod_isGood_7 (by decide) ?_
  refine lv_ishr hx hb dMod_isGood_9 ?_
  refine x_topi (y := wN w) (rfl) ?_
  refine lv_istore_n (lv' := [(3, .int (wN w)), (2, .int (wI w)), (0, .int w), (1, .int (nI len))]) hx hb dMod_isGood_10 rfl hl (by decide) rfl (fun ls hl => ?_)
  refine lv_iload_n hx hb dMod_isGood_11 rfl (lv_at hl 1 rfl) ?_
  by_cases s3 : wI w = 3
  · refine lv_lookup (tgt := 64) (off := 52) hx hb dMod_isGood_12 (by decide) (by rw [s3]; decide) (by decide) ?_
    refine lv_iload_n hx hb dMod_isGood_64 rfl (lv_at hl 0 rfl) ?_
    refine lv_if_lt (tgt := 78) hx hb dMod_isGood_65 (by decide) (fun c65 => ?_) (fun c65 => ?_)
    · refine lv_iconst (v := 0) hx hb dMod_isGood_78 (by decide) ?_
      exact hret 0 (())  (rfl) _ _ _ (by simp [wGood, x_b, *]) (hP.sub [] rfl) (hD.sub [] (by decide) rfl) hS dMod_isGood_79
    · refine lv_iload_n hx hb dMod_isGood_68 rfl (lv_at hl 0 rfl) ?_
      refine lv_bipush (v := 15) hx hb dMod_isGood_69 (by decide) ?_
      refine lv_icmp_gt (tgt := 78) hx hb dMod_isGood_71 (by decide) (fun c71 => ?_) (fun c71 => ?_)
      · refine lv_iconst (v := 0) hx hb dMod_isGood_78 (by decide) ?_
        exact hret 0 (())  (rfl) _ _ _ (by simp [wGood, x_b, *]) (hP.sub [] rfl) (hD.sub [] (by decide) rfl) hS dMod_isGood_79
      · refine lv_iconst (v := 1) hx hb dMod_isGood_74 (by decide) ?_
        refine lv_goto (tgt := 79) hx hb dMod_isGood_75 (by decide) ?_
        exact hret 1 (())  (rfl) _ _ _ (by simp [wGood, x_b, *]) (hP.sub [] rfl) (hD.sub [] (by decide) rfl) hS dMod_isGood_79
  by_cases s4 : wI w = 4
  · refine lv_lookup (tgt := 80) (off := 68) hx hb dMod_isGood_12 (by decide) (by rw [s4]; decide) (by decide) ?_
    refine lv_iload_n hx hb dMod_isGood_80 rfl (lv_at hl 0 rfl) ?_
    refine lv_iconst (v := 1) hx hb dMod_isGood_81 (by decide) ?_
    refine lv_icmp_lt (tgt := 95) hx hb dMod_isGood_82 (by decide) (fun c82 => ?_) (fun c82 => ?_)
    · refine lv_iconst (v := 0) hx hb dMod_isGood_95 (by decide) ?_
      exact hret 0 (())  (rfl) _ _ _ (by simp [wGood, x_b, *]) (hP.sub [] rfl) (hD.sub [] (by decide) rfl) hS dMod_isGood_96
    · refine lv_iload_n hx hb dMod_isGood_85 rfl (lv_at hl 0 rfl) ?_
      refine lv_bipush (v := 15) hx hb dMod_isGood_86 (by decide) ?_
      refine lv_icmp_gt (tgt := 95) hx hb dMod_isGood_88 (by decide) (fun c88 => ?_) (fun c88 => ?_)
      · refine lv_iconst (v := 0) hx hb dMod_isGood_95 (by decide) ?_
        exact hret 0 (())  (rfl) _ _ _ (by simp [wGood, x_b, *]) (hP.sub [] rfl) (hD.sub [] (by decide) rfl) hS dMod_isGood_96
      · refine lv_iconst (v := 1) hx hb dMod_isGood_91 (by decide) ?_
        refine lv_goto (tgt := 96) hx hb dMod_isGood_92 (by decide) ?_
        exact hret 1 (())  (rfl) _ _ _ (by simp [wGood, x_b, *]) (hP.sub [] rfl) (hD.sub [] (by decide) rfl) hS dMod_isGood_96
  by_cases s16 : wI w = 16
  · refine lv_lookup (tgt := 97) (off := 85) hx hb dMod_isGood_12 (by decide) (by rw [s16]; decide) (by decide) ?_
    refine lv_iload_n hx hb dMod_isGood_97 rfl (lv_at hl 0 rfl) ?_
    refine lv_if_lt (tgt := 110) hx hb dMod_isGood_98 (by decide) (fun c98 => ?_) (fun c98 => ?_)
    · refine lv_iconst (v := 0) hx hb dMod_isGood_110 (by decide) ?_
      exact hret 0 (())  (rfl) _ _ _ (by simp [wGood, x_b, *]) (hP.sub [] rfl) (hD.sub [] (by decide) rfl) hS dMod_isGood_111
    · refine lv_iload_n hx hb dMod_isGood_101 rfl (lv_at hl 0 rfl) ?_
      refine lv_iload_n hx hb dMod_isGood_102 rfl (lv_at hl 3 rfl) ?_
      refine lv_icmp_gt (tgt := 110) hx hb dMod_isGood_103 (by decide) (fun c103 => ?_) (fun c103 => ?_)
      · refine lv_iconst (v := 0) hx hb dMod_isGood_110 (by decide) ?_
        exact hret 0 (())  (rfl) _ _ _ (by simp [wGood, x_b, *]) (hP.sub [] rfl) (hD.sub [] (by decide) rfl) hS dMod_isGood_111
      · refine lv_iconst (v := 1) hx hb dMod_isGood_106 (by decide) ?_
        refine lv_goto (tgt := 111) hx hb dMod_isGood_107 (by decide) ?_
        exact hret 1 (())  (rfl) _ _ _ (by simp [wGood, x_b, *]) (hP.sub [] rfl) (hD.sub [] (by decide) rfl) hS dMod_isGood_111
  by_cases s17 : wI w = 17
  · refine lv_lookup (tgt := 97) (off := 85) hx hb dMod_isGood_12 (by decide) (by rw [s17]; decide) (by decide) ?_
    refine lv_iload_n hx hb dMod_isGood_97 rfl (lv_at hl 0 rfl) ?_
    refine lv_if_lt (tgt := 110) hx hb dMod_isGood_98 (by decide) (fun c98 => ?_) (fun c98 => ?_)
    · refine lv_iconst (v := 0) hx hb dMod_isGood_110 (by decide) ?_
      exact hret 0 (())  (rfl) _ _ _ (by simp [wGood, x_b, *]) (hP.sub [] rfl) (hD.sub [] (by decide) rfl) hS dMod_isGood_111
    · refine lv_iload_n hx hb dMod_isGood_101 rfl (lv_at hl 0 rfl) ?_
      refine lv_iload_n hx hb dMod_isGood_102 rfl (lv_at hl 3 rfl) ?_
      refine lv_icmp_gt (tgt := 110) hx hb dMod_isGood_103 (by decide) (fun c103 => ?_) (fun c103 => ?_)
      · refine lv_iconst (v := 0) hx hb dMod_isGood_110 (by decide) ?_
        exact hret 0 (())  (rfl) _ _ _ (by simp [wGood, x_b, *]) (hP.sub [] rfl) (hD.sub [] (by decide) rfl) hS dMod_isGood_111
      · refine lv_iconst (v := 1) hx hb dMod_isGood_106 (by decide) ?_
        refine lv_goto (tgt := 111) hx hb dMod_isGood_107 (by decide) ?_
        exact hret 1 (())  (rfl) _ _ _ (by simp [wGood, x_b, *]) (hP.sub [] rfl) (hD.sub [] (by decide) rfl) hS dMod_isGood_111
  by_cases s27 : wI w = 27
  · refine lv_lookup (tgt := 112) (off := 100) hx hb dMod_isGood_12 (by decide) (by rw [s27]; decide) (by decide) ?_
    refine lv_iload_n hx hb dMod_isGood_112 rfl (lv_at hl 0 rfl) ?_
    refine lv_if_lt (tgt := 126) hx hb dMod_isGood_113 (by decide) (fun c113 => ?_) (fun c113 => ?_)
    · refine lv_iconst (v := 0) hx hb dMod_isGood_126 (by decide) ?_
      exact hret 0 (())  (rfl) _ _ _ (by simp [wGood, x_b, *]) (hP.sub [] rfl) (hD.sub [] (by decide) rfl) hS dMod_isGood_127
    · refine lv_iload_n hx hb dMod_isGood_116 rfl (lv_at hl 0 rfl) ?_
      refine lv_bipush (v := 8) hx hb dMod_isGood_117 (by decide) ?_
      refine lv_icmp_gt (tgt := 126) hx hb dMod_isGood_119 (by decide) (fun c119 => ?_) (fun c119 => ?_)
      · refine lv_iconst (v := 0) hx hb dMod_isGood_126 (by decide) ?_
        exact hret 0 (())  (rfl) _ _ _ (by simp [wGood, x_b, *]) (hP.sub [] rfl) (hD.sub [] (by decide) rfl) hS dMod_isGood_127
      · refine lv_iconst (v := 1) hx hb dMod_isGood_122 (by decide) ?_
        refine lv_goto (tgt := 127) hx hb dMod_isGood_123 (by decide) ?_
        exact hret 1 (())  (rfl) _ _ _ (by simp [wGood, x_b, *]) (hP.sub [] rfl) (hD.sub [] (by decide) rfl) hS dMod_isGood_127
  refine lv_lookup (tgt := 128) (off := 116) hx hb dMod_isGood_12 (by decide) (by rw [lv_osw s3 (by decide)]; rw [lv_osw s4 (by decide)]; rw [lv_osw s16 (by decide)]; rw [lv_osw s17 (by decide)]; rw [lv_osw s27 (by decide)]; rfl) (by decide) ?_
  refine lv_iload_n hx hb dMod_isGood_128 rfl (lv_at hl 1 rfl) ?_
  refine lv_bipush (v := 30) hx hb dMod_isGood_129 (by decide) ?_
  refine lv_icmp_ge (tgt := 138) hx hb dMod_isGood_131 (by decide) (fun c131 => ?_) (fun c131 => ?_)
  · have c131 : (30 : Int32) ≤ wI w := c131
    refine lv_iconst (v := 0) hx hb dMod_isGood_138 (by decide) ?_
    exact hret 0 (())  (rfl) _ _ _ (by simp [wGood, x_b, *]) (hP.sub [] rfl) (hD.sub [] (by decide) rfl) hS dMod_isGood_139
  · have c131 : wI w < (30 : Int32) := Int32.not_le.mp c131
    refine lv_iconst (v := 1) hx hb dMod_isGood_134 (by decide) ?_
    refine lv_goto (tgt := 139) hx hb dMod_isGood_135 (by decide) ?_
    exact hret 1 (())  (rfl) _ _ _ (by simp [wGood, x_b, *]) (hP.sub [] rfl) (hD.sub [] (by decide) rfl) hS dMod_isGood_139

set_option maxHeartbeats 4000000 in
set_option maxRecDepth 100000 in
theorem kM_seal (l : Launch) (dC : Nat → ClassId) (dI : Nat → Nat → Nat) (kI kJ kZ : ClassId) (m0 : Nat) (b1 : Nat) (b2 : Nat) (b3 : Nat) (b4 : Nat) (b5 : Nat) (b6 : Nat) (b7 : Nat) (b8 : Nat) (b9 : Nat) (b10 : Nat) (b11 : Nat) (b12 : Nat) (b13 : Nat) (b14 : Nat) (b15 : Nat) (b16 : Nat) (b17 : Nat) (b18 : Nat) (b19 : Nat) (b20 : Nat) (b21 : Nat) (b22 : Nat) (b23 : Nat) (b24 : Nat) (nA : Nat) (kn : Nat) (ln : Nat) (an : Nat) (f0 : Int32) (f2 : Int32) (f3 : Int32) (f4 : Int32) (f5 : Int32) (f1 : Int32) (cw : Nat → Int32) (lc : Nat → Nat) (z : Nat → Bool) (a : Nat) (hnA : nA ≤ 24) (ha : a < nA) (hln : ∀ j, j < 24 → lc j ≤ 160) (hz : z a = false) :
    XM stX l yMod_seal wMod_seal { frames := 1, cells := 0, slots := 0, locals := 23 } (dC, dI) xCl (x_T kI kJ kZ) [(m0, .inr (6, [.int f0, .int (nI nA), .ref b1, .ref b2, .ref b3, .ref b4, .ref b5, .ref b6, .ref b7, .int (nI kn), .ref b8, .int (nI ln), .ref b9, .ref b10, .ref b11, .ref b12, .ref b13, .ref b14, .int f1, .ref b15, .ref b16, .ref b17, .ref b18, .ref b19, .ref b20, .ref b21, .ref b22, .ref b23, .ref b24, .int (nI an), .int f2, .int f3, .int f4, .int f5])), (b2, .inl (kI, 3840, .inl cw)), (b3, .inl (kI, 24, .inl (fun j => nI (lc j)))), (b4, .inl (kZ, 24, .inl (fun j => x_b (z j))))] [.ref m0, .int (nI a)] 0 0 x_eI (fun (r : Int32) (u : (Nat → Nat) × (Nat → Bool)) => (r = match wBad cw a (lc a) 0 (lc a) with | none => -1 | some k => nI k) ∧ (u.1 = match wBad cw a (lc a) 0 (lc a) with | none => lc | some _ => va_up lc a 0) ∧ (u.2 = match wBad cw a (lc a) 0 (lc a) with | none => va_up z a true | some _ => z)) (fun (u : (Nat → Nat) × (Nat → Bool)) => [(m0, .inr (6, [.int 0, .int (nI nA), .ref b1, .ref b2, .ref b3, .ref b4, .ref b5, .ref b6, .ref b7, .int (nI kn), .ref b8, .int (nI ln), .ref b9, .ref b10, .ref b11, .ref b12, .ref b13, .ref b14, .int f1, .ref b15, .ref b16, .ref b17, .ref b18, .ref b19, .ref b20, .ref b21, .ref b22, .ref b23, .ref b24, .int (nI an), .int f2, .int f3, .int f4, .int f5])), (b2, .inl (kI, 3840, .inl cw)), (b3, .inl (kI, 24, .inl (fun j => nI (u.1 j)))), (b4, .inl (kZ, 24, .inl (fun j => x_b (u.2 j))))]) := by
  refine XM.ofI (cc := cMod_seal) (maxL := 3) (by decide) rfl (Nat.le_of_ble_eq_true rfl) ?_
  intro p e s m below meth c A Q hx hb hr hml hown hts hlocks hin hA hK hP hD hX hS ls hl hret
  have hl : lv_has ls 3 [(0, .ref m0), (1, .int (nI a))] := hl
  have hla := hln a (by omega)
  refine lv_aload_n hx hb dMod_seal_0 rfl (lv_at hl 0 rfl) ?_
  refine lv_aload_n hx hb dMod_seal_1 rfl (lv_at hl 0 rfl) ?_
  refine lv_iload_n hx hb dMod_seal_2 rfl (lv_at hl 1 rfl) ?_
  refine XM.callVi (As := [.int (nI a)]) (rest := [.ref m0]) (wr := [(b2, .inl (kI, 3840, .inl cw)), (b3, .inl (kI, 24, .inl (fun j => nI (lc j)))), (b4, .inl (kZ, 24, .inl (fun j => x_b (z j))))]) stX_ok ⟨hx, hb, hml, hown, hts⟩ (kM_noAcc l dC dI kI kJ kZ m0 b1 b2 b3 b4 b5 b6 b7 b8 b9 b10 b11 b12 b13 b14 b15 b16 b17 b18 b19 b20 b21 b22 b23 b24 nA kn ln an f0 f2 f3 f4 f5 f1 (nI a) ) (cwV 1 hts (x_gV gw765 gw767 gw19 gw43 gw768) rfl rfl rfl (by decide +kernel) ⟨Nat.le_of_ble_eq_true rfl, Nat.le_of_ble_eq_true rfl⟩) hK hP hD hS hA hX [0] [1, 2, 3] rfl rfl (by decide) (by decide) (by decide) rfl rfl rfl rfl hl.1 (Nat.le_of_ble_eq_true rfl) dMod_seal_3 ⟨Nat.le_of_ble_eq_true rfl, Nat.le_of_ble_eq_true rfl⟩ (fun r_2 u_1 H locs hw hP hD hS => ?_)
  obtain rfl := hw
  have hP : va_P (dC, dI) xCl [(b2, .inl (kI, 3840, .inl cw)), (b3, .inl (kI, 24, .inl (fun j => nI (lc j)))), (b4, .inl (kZ, 24, .inl (fun j => x_b (z j)))), (m0, .inr (6, [.int f0, .int (nI nA), .ref b1, .ref b2, .ref b3, .ref b4, .ref b5, .ref b6, .ref b7, .int (nI kn), .ref b8, .int (nI ln), .ref b9, .ref b10, .ref b11, .ref b12, .ref b13, .ref b14, .int f1, .ref b15, .ref b16, .ref b17, .ref b18, .ref b19, .ref b20, .ref b21, .ref b22, .ref b23, .ref b24, .int (nI an), .int f2, .int f3, .int f4, .int f5]))] H := hP
  have hD : va_D A [(b2, .inl (kI, 3840, .inl cw)), (b3, .inl (kI, 24, .inl (fun j => nI (lc j)))), (b4, .inl (kZ, 24, .inl (fun j => x_b (z j)))), (m0, .inr (6, [.int f0, .int (nI nA), .ref b1, .ref b2, .ref b3, .ref b4, .ref b5, .ref b6, .ref b7, .int (nI kn), .ref b8, .int (nI ln), .ref b9, .ref b10, .ref b11, .ref b12, .ref b13, .ref b14, .int f1, .ref b15, .ref b16, .ref b17, .ref b18, .ref b19, .ref b20, .ref b21, .ref b22, .ref b23, .ref b24, .int (nI an), .int f2, .int f3, .int f4, .int f5]))] := hD
  refine lv_if_eq (tgt := 13) hx hb dMod_seal_6 (by decide) (fun c6 => ?_) (fun c6 => ?_)
  · have c6 : (xHas nA (nI a) = true) := x_i01.mp c6
    refine lv_aload_n hx hb dMod_seal_13 rfl (lv_at hl 0 rfl) ?_
    refine va_get (D := (dC, dI)) (ci := 6) (v := .ref b4) (C := RMod) (T := TMod) (N := 34) hx hb hts (fun w h => List.mem_cons_of_mem _ (layMod w h)) hown hK hP 3 rfl rfl 5 (by decide) (hts (.fieldLink RMod 19 "CallLedgerModel" "sealed0" "[Z") (List.mem_cons_of_mem _ gw649)) (fun _ h9 => h9) rfl dMod_seal_14 ?_
    refine lv_iload_n hx hb dMod_seal_17 rfl (lv_at hl 1 rfl) ?_
    refine x_zald (j := a) hx hb hK hP 2 2 rfl rfl rfl (by omega) (by omega) dMod_seal_18 ?_
    refine lv_if_eq (tgt := 26) hx hb dMod_seal_19 (by decide) (fun c19 => ?_) (fun c19 => ?_)
    · have c19 : (z a) = false := x_b0.mp c19
      refine lv_iconst (v := 0) hx hb dMod_seal_26 (by decide) ?_
      refine va_put (D := (dC, dI)) (ci := 6) (v := .int 0) (ty := .int) (C := RMod) (T := TMod) (N := 34) hx hb hts (fun w h => List.mem_cons_of_mem _ (layMod w h)) tyMod tykMod nmMod hown hK hP hD hS 3 rfl rfl 0 (by decide) (hts (.fieldLink RMod 83 "CallLedgerModel" "thrown" "I") (List.mem_cons_of_mem _ gw644)) (fun _ h9 => h9) rfl (by decide +kernel) rfl rfl (Nat.le_of_ble_eq_true rfl) dMod_seal_27 (fun H locs hP hD hS => ?_)
      have hP : va_P (dC, dI) xCl [(b2, .inl (kI, 3840, .inl cw)), (b3, .inl (kI, 24, .inl (fun j => nI (lc j)))), (b4, .inl (kZ, 24, .inl (fun j => x_b (z j)))), (m0, .inr (6, [.int 0, .int (nI nA), .ref b1, .ref b2, .ref b3, .ref b4, .ref b5, .ref b6, .ref b7, .int (nI kn), .ref b8, .int (nI ln), .ref b9, .ref b10, .ref b11, .ref b12, .ref b13, .ref b14, .int f1, .ref b15, .ref b16, .ref b17, .ref b18, .ref b19, .ref b20, .ref b21, .ref b22, .ref b23, .ref b24, .int (nI an), .int f2, .int f3, .int f4, .int f5]))] H := hP
      have hD : va_D A [(b2, .inl (kI, 3840, .inl cw)), (b3, .inl (kI, 24, .inl (fun j => nI (lc j)))), (b4, .inl (kZ, 24, .inl (fun j => x_b (z j)))), (m0, .inr (6, [.int 0, .int (nI nA), .ref b1, .ref b2, .ref b3, .ref b4, .ref b5, .ref b6, .ref b7, .int (nI kn), .ref b8, .int (nI ln), .ref b9, .ref b10, .ref b11, .ref b12, .ref b13, .ref b14, .int f1, .ref b15, .ref b16, .ref b17, .ref b18, .ref b19, .ref b20, .ref b21, .ref b22, .ref b23, .ref b24, .int (nI an), .int f2, .int f3, .int f4, .int f5]))] := hD
      refine lv_aload_n hx hb dMod_seal_30 rfl (lv_at hl 0 rfl) ?_
      refine va_get (D := (dC, dI)) (ci := 6) (v := .int 0) (C := RMod) (T := TMod) (N := 34) hx hb hts (fun w h => List.mem_cons_of_mem _ (layMod w h)) hown hK hP 3 rfl rfl 0 (by decide) (hts (.fieldLink RMod 83 "CallLedgerModel" "thrown" "I") (List.mem_cons_of_mem _ gw644)) (fun _ h9 => h9) rfl dMod_seal_31 ?_
      refine lv_if_le (tgt := 39) hx hb dMod_seal_34 (by decide) (fun c34 => ?_) (fun c34 => ?_)
      · refine lv_iconst (v := 0) hx hb dMod_seal_39 (by decide) ?_
        refine lv_istore_n (lv' := [(2, .int 0), (0, .ref m0), (1, .int (nI a))]) hx hb dMod_seal_40 rfl hl (by decide) rfl (fun ls hl => ?_)
        have loop41 : ∀ (N : Nat) (k : Nat), ∀ (hN : lc a - k < N) (hk : k ≤ lc a) (hbd : wBad cw a (lc a) k (lc a - k) = wBad cw a (lc a) 0 (lc a)) (H : Heap) (locs : List Loc), va_P (dC, dI) xCl [(m0, .inr (6, [.int 0, .int (nI nA), .ref b1, .ref b2, .ref b3, .ref b4, .ref b5, .ref b6, .ref b7, .int (nI kn), .ref b8, .int (nI ln), .ref b9, .ref b10, .ref b11, .ref b12, .ref b13, .ref b14, .int f1, .ref b15, .ref b16, .ref b17, .ref b18, .ref b19, .ref b20, .ref b21, .ref b22, .ref b23, .ref b24, .int (nI an), .int f2, .int f3, .int f4, .int f5])), (b2, .inl (kI, 3840, .inl cw)), (b3, .inl (kI, 24, .inl (fun j => nI (lc j)))), (b4, .inl (kZ, 24, .inl (fun j => x_b (z j))))] H → va_D A [(m0, .inr (6, [.int 0, .int (nI nA), .ref b1, .ref b2, .ref b3, .ref b4, .ref b5, .ref b6, .ref b7, .int (nI kn), .ref b8, .int (nI ln), .ref b9, .ref b10, .ref b11, .ref b12, .ref b13, .ref b14, .int f1, .ref b15, .ref b16, .ref b17, .ref b18, .ref b19, .ref b20, .ref b21, .ref b22, .ref b23, .ref b24, .int (nI an), .int f2, .int f3, .int f4, .int f5])), (b2, .inl (kI, 3840, .inl cw)), (b3, .inl (kI, 24, .inl (fun j => nI (lc j)))), (b4, .inl (kZ, 24, .inl (fun j => x_b (z j))))] → va_S A s.heap H locs → ∀ ls, lv_has ls 3 [(0, .ref m0), (1, .int (nI a)), (2, .int (nI k))] → W p l e { frames := 1, cells := 0, slots := 0, locals := 23 } s m [.ref m0, .int (nI a)].toArray below meth c H locs 0 0 Q (F0 m 41 ls []) := by
          intro N
          induction N with
          | zero => intro k hN; exact absurd hN (Nat.not_lt_zero _)
          | succ N ih =>
            intro k hN hk hbd H locs hP hD hS ls hl
            refine lv_iload_n hx hb dMod_seal_41 rfl (lv_at hl 2 rfl) ?_
            refine lv_aload_n hx hb dMod_seal_42 rfl (lv_at hl 0 rfl) ?_
            refine va_get (D := (dC, dI)) (ci := 6) (v := .ref b3) (C := RMod) (T := TMod) (N := 34) hx hb hts (fun w h => List.mem_cons_of_mem _ (layMod w h)) hown hK hP 0 rfl rfl 4 (by decide) (hts (.fieldLink RMod 16 "CallLedgerModel" "lengths" "[I") (List.mem_cons_of_mem _ gw648)) (fun _ h9 => h9) rfl dMod_seal_43 ?_
            refine lv_iload_n hx hb dMod_seal_46 rfl (lv_at hl 1 rfl) ?_
            refine x_iald (j := a) hx hb hK hP 2 0 rfl rfl rfl (by omega) (by omega) dMod_seal_47 ?_
            refine lv_icmp_ge (tgt := 90) hx hb dMod_seal_48 (by decide) (fun c48 => ?_) (fun c48 => ?_)
            · have c48 : (lc a) ≤ k := (nI_leI (a := (lc a)) (b := k) (by omega) (by omega)).mp c48
              refine lv_aload_n hx hb dMod_seal_90 rfl (lv_at hl 0 rfl) ?_
              refine va_get (D := (dC, dI)) (ci := 6) (v := .ref b4) (C := RMod) (T := TMod) (N := 34) hx hb hts (fun w h => List.mem_cons_of_mem _ (layMod w h)) hown hK hP 0 rfl rfl 5 (by decide) (hts (.fieldLink RMod 19 "CallLedgerModel" "sealed0" "[Z") (List.mem_cons_of_mem _ gw649)) (fun _ h9 => h9) rfl dMod_seal_91 ?_
              refine lv_iload_n hx hb dMod_seal_94 rfl (lv_at hl 1 rfl) ?_
              refine lv_iconst (v := 1) hx hb dMod_seal_95 (by decide) ?_
              refine x_zast (j := a) hx hb hK hP hD hS 3 2 rfl rfl rfl (by omega) (by omega) dMod_seal_96 rfl (fun H locs hP hD hS => ?_)
              have hP : va_P (dC, dI) xCl [(m0, .inr (6, [.int 0, .int (nI nA), .ref b1, .ref b2, .ref b3, .ref b4, .ref b5, .ref b6, .ref b7, .int (nI kn), .ref b8, .int (nI ln), .ref b9, .ref b10, .ref b11, .ref b12, .ref b13, .ref b14, .int f1, .ref b15, .ref b16, .ref b17, .ref b18, .ref b19, .ref b20, .ref b21, .ref b22, .ref b23, .ref b24, .int (nI an), .int f2, .int f3, .int f4, .int f5])), (b2, .inl (kI, 3840, .inl cw)), (b3, .inl (kI, 24, .inl (fun j => nI (lc j)))), (b4, .inl (kZ, 24, .inl (upd (fun j => x_b (z j)) a 1)))] H := hP
              have hD : va_D A [(m0, .inr (6, [.int 0, .int (nI nA), .ref b1, .ref b2, .ref b3, .ref b4, .ref b5, .ref b6, .ref b7, .int (nI kn), .ref b8, .int (nI ln), .ref b9, .ref b10, .ref b11, .ref b12, .ref b13, .ref b14, .int f1, .ref b15, .ref b16, .ref b17, .ref b18, .ref b19, .ref b20, .ref b21, .ref b22, .ref b23, .ref b24, .int (nI an), .int f2, .int f3, .int f4, .int f5])), (b2, .inl (kI, 3840, .inl cw)), (b3, .inl (kI, 24, .inl (fun j => nI (lc j)))), (b4, .inl (kZ, 24, .inl (upd (fun j => x_b (z j)) a 1)))] := hD
              rw [(show upd (fun j => x_b (z j)) a 1 = fun j => x_b (va_up z a true j) from x_updB z a true)] at hP hD
              have hP : va_P (dC, dI) xCl [(m0, .inr (6, [.int 0, .int (nI nA), .ref b1, .ref b2, .ref b3, .ref b4, .ref b5, .ref b6, .ref b7, .int (nI kn), .ref b8, .int (nI ln), .ref b9, .ref b10, .ref b11, .ref b12, .ref b13, .ref b14, .int f1, .ref b15, .ref b16, .ref b17, .ref b18, .ref b19, .ref b20, .ref b21, .ref b22, .ref b23, .ref b24, .int (nI an), .int f2, .int f3, .int f4, .int f5])), (b2, .inl (kI, 3840, .inl cw)), (b3, .inl (kI, 24, .inl (fun j => nI (lc j)))), (b4, .inl (kZ, 24, .inl (fun j => x_b (va_up z a true j))))] H := hP
              have hD : va_D A [(m0, .inr (6, [.int 0, .int (nI nA), .ref b1, .ref b2, .ref b3, .ref b4, .ref b5, .ref b6, .ref b7, .int (nI kn), .ref b8, .int (nI ln), .ref b9, .ref b10, .ref b11, .ref b12, .ref b13, .ref b14, .int f1, .ref b15, .ref b16, .ref b17, .ref b18, .ref b19, .ref b20, .ref b21, .ref b22, .ref b23, .ref b24, .int (nI an), .int f2, .int f3, .int f4, .int f5])), (b2, .inl (kI, 3840, .inl cw)), (b3, .inl (kI, 24, .inl (fun j => nI (lc j)))), (b4, .inl (kZ, 24, .inl (fun j => x_b (va_up z a true j))))] := hD
              rw [show lc a - k = 0 from by omega] at hbd
              have hbd : (none : Option Nat) = wBad cw a (lc a) 0 (lc a) := hbd
              refine lv_iconst (v := (-1)) hx hb dMod_seal_97 (by decide) ?_
              exact hret (-1) ((lc, va_up z a true)) _ _ _ (⟨by rw [← hbd], by rw [← hbd], by rw [← hbd]⟩) (hP.sub [0, 1, 2, 3] rfl) (hD.sub [0, 1, 2, 3] (by decide) rfl) hS dMod_seal_98
            · have c48 : ¬ ((lc a) ≤ k) := fun z9 => c48 ((nI_leI (a := (lc a)) (b := k) (by omega) (by omega)).mpr z9)
              have hklt : k < lc a := by omega
              refine lv_aload_n hx hb dMod_seal_51 rfl (lv_at hl 0 rfl) ?_
              refine va_get (D := (dC, dI)) (ci := 6) (v := .ref b2) (C := RMod) (T := TMod) (N := 34) hx hb hts (fun w h => List.mem_cons_of_mem _ (layMod w h)) hown hK hP 0 rfl rfl 3 (by decide) (hts (.fieldLink RMod 13 "CallLedgerModel" "codes" "[I") (List.mem_cons_of_mem _ gw647)) (fun _ h9 => h9) rfl dMod_seal_52 ?_
              refine lv_sipush (v := 160) hx hb dMod_seal_55 (by decide) ?_
              refine lv_iload_n hx hb dMod_seal_58 rfl (lv_at hl 1 rfl) ?_
              refine lv_imul hx hb dMod_seal_59 ?_
              refine x_topi (y := nI (160 * a)) (x_mul160) ?_
              refine lv_iload_n hx hb dMod_seal_60 rfl (lv_at hl 2 rfl) ?_
              refine lv_iadd hx hb dMod_seal_61 ?_
              refine x_topi (y := nI (160 * a + k)) (nI_add _ _) ?_
              refine x_topi (y := nI (a * 160 + k)) (by rw [Nat.mul_comm]) ?_
              refine x_iald (j := a * 160 + k) hx hb hK hP 1 0 rfl rfl rfl (by omega) (by omega) dMod_seal_62 ?_
              refine lv_aload_n hx hb dMod_seal_63 rfl (lv_at hl 0 rfl) ?_
              refine va_get (D := (dC, dI)) (ci := 6) (v := .ref b3) (C := RMod) (T := TMod) (N := 34) hx hb hts (fun w h => List.mem_cons_of_mem _ (layMod w h)) hown hK hP 0 rfl rfl 4 (by decide) (hts (.fieldLink RMod 16 "CallLedgerModel" "lengths" "[I") (List.mem_cons_of_mem _ gw648)) (fun _ h9 => h9) rfl dMod_seal_64 ?_
              refine lv_iload_n hx hb dMod_seal_67 rfl (lv_at hl 1 rfl) ?_
              refine x_iald (j := a) hx hb hK hP 2 0 rfl rfl rfl (by omega) (by omega) dMod_seal_68 ?_
              refine XM.callSi (As := [.int (cw (a * 160 + k)), .int (nI (lc a))]) (rest := []) (wr := [(m0, .inr (6, [.int 0, .int (nI nA), .ref b1, .ref b2, .ref b3, .ref b4, .ref b5, .ref b6, .ref b7, .int (nI kn), .ref b8, .int (nI ln), .ref b9, .ref b10, .ref b11, .ref b12, .ref b13, .ref b14, .int f1, .ref b15, .ref b16, .ref b17, .ref b18, .ref b19, .ref b20, .ref b21, .ref b22, .ref b23, .ref b24, .int (nI an), .int f2, .int f3, .int f4, .int f5])), (b2, .inl (kI, 3840, .inl cw)), (b3, .inl (kI, 24, .inl (fun j => nI (lc j)))), (b4, .inl (kZ, 24, .inl (fun j => x_b (z j))))]) stX_ok ⟨hx, hb, hml, hown, hts⟩ (kM_isGood l dC dI kI kJ kZ (cw (a * 160 + k)) (lc a) ) (va_cwS 2 hts (x_gS gw773 gw774 gw43 gw775) rfl rfl rfl (by decide +kernel) ⟨Nat.le_of_ble_eq_true rfl, Nat.le_of_ble_eq_true rfl⟩) hK hP hD hS hA hX [] [0, 1, 2, 3] rfl rfl (by decide) (by decide) (by decide) rfl rfl hl.1 (Nat.le_of_ble_eq_true rfl) dMod_seal_69 ⟨Nat.le_of_ble_eq_true rfl, Nat.le_of_ble_eq_true rfl⟩ (fun r_4 u_3 H locs hw hP hD hS => ?_)
              obtain rfl := hw
              have hP : va_P (dC, dI) xCl [(m0, .inr (6, [.int 0, .int (nI nA), .ref b1, .ref b2, .ref b3, .ref b4, .ref b5, .ref b6, .ref b7, .int (nI kn), .ref b8, .int (nI ln), .ref b9, .ref b10, .ref b11, .ref b12, .ref b13, .ref b14, .int f1, .ref b15, .ref b16, .ref b17, .ref b18, .ref b19, .ref b20, .ref b21, .ref b22, .ref b23, .ref b24, .int (nI an), .int f2, .int f3, .int f4, .int f5])), (b2, .inl (kI, 3840, .inl cw)), (b3, .inl (kI, 24, .inl (fun j => nI (lc j)))), (b4, .inl (kZ, 24, .inl (fun j => x_b (z j))))] H := hP
              have hD : va_D A [(m0, .inr (6, [.int 0, .int (nI nA), .ref b1, .ref b2, .ref b3, .ref b4, .ref b5, .ref b6, .ref b7, .int (nI kn), .ref b8, .int (nI ln), .ref b9, .ref b10, .ref b11, .ref b12, .ref b13, .ref b14, .int f1, .ref b15, .ref b16, .ref b17, .ref b18, .ref b19, .ref b20, .ref b21, .ref b22, .ref b23, .ref b24, .int (nI an), .int f2, .int f3, .int f4, .int f5])), (b2, .inl (kI, 3840, .inl cw)), (b3, .inl (kI, 24, .inl (fun j => nI (lc j)))), (b4, .inl (kZ, 24, .inl (fun j => x_b (z j))))] := hD
              refine lv_if_ne (tgt := 84) hx hb dMod_seal_72 (by decide) (fun c72 => ?_) (fun c72 => ?_)
              · have c72 : (wGood (cw (a * 160 + k)) (lc a)) = true := Bool.of_not_eq_false (fun z9 => c72 (x_b0.mpr z9))
                refine lv_iinc (v := nI (k + 1)) (lv' := [(2, .int (nI (k + 1))), (0, .ref m0), (1, .int (nI a))]) hx hb dMod_seal_84 hl (k := 2) rfl (nI_1 _) (by decide) rfl (fun ls hl => ?_)
                refine lv_goto (tgt := 41) hx hb dMod_seal_87 (by decide) ?_
                exact ih (k + 1) (by omega) (by omega) (by rw [← hbd, wBad_good (by omega) c72]) _ _ (hP.sub [0, 1, 2, 3] rfl) (hD.sub [0, 1, 2, 3] (by decide) rfl) hS _ (lv_sub hl [1, 2, 0] rfl)
              · have c72 : (wGood (cw (a * 160 + k)) (lc a)) = false := x_b0.mp c72
                refine lv_aload_n hx hb dMod_seal_75 rfl (lv_at hl 0 rfl) ?_
                refine va_get (D := (dC, dI)) (ci := 6) (v := .ref b3) (C := RMod) (T := TMod) (N := 34) hx hb hts (fun w h => List.mem_cons_of_mem _ (layMod w h)) hown hK hP 0 rfl rfl 4 (by decide) (hts (.fieldLink RMod 16 "CallLedgerModel" "lengths" "[I") (List.mem_cons_of_mem _ gw648)) (fun _ h9 => h9) rfl dMod_seal_76 ?_
                refine lv_iload_n hx hb dMod_seal_79 rfl (lv_at hl 1 rfl) ?_
                refine lv_iconst (v := 0) hx hb dMod_seal_80 (by decide) ?_
                refine x_iast (j := a) hx hb hK hP hD hS 2 0 rfl rfl rfl (by omega) (by omega) dMod_seal_81 (fun H locs hP hD hS => ?_)
                have hP : va_P (dC, dI) xCl [(m0, .inr (6, [.int 0, .int (nI nA), .ref b1, .ref b2, .ref b3, .ref b4, .ref b5, .ref b6, .ref b7, .int (nI kn), .ref b8, .int (nI ln), .ref b9, .ref b10, .ref b11, .ref b12, .ref b13, .ref b14, .int f1, .ref b15, .ref b16, .ref b17, .ref b18, .ref b19, .ref b20, .ref b21, .ref b22, .ref b23, .ref b24, .int (nI an), .int f2, .int f3, .int f4, .int f5])), (b2, .inl (kI, 3840, .inl cw)), (b3, .inl (kI, 24, .inl (upd (fun j => nI (lc j)) a 0))), (b4, .inl (kZ, 24, .inl (fun j => x_b (z j))))] H := hP
                have hD : va_D A [(m0, .inr (6, [.int 0, .int (nI nA), .ref b1, .ref b2, .ref b3, .ref b4, .ref b5, .ref b6, .ref b7, .int (nI kn), .ref b8, .int (nI ln), .ref b9, .ref b10, .ref b11, .ref b12, .ref b13, .ref b14, .int f1, .ref b15, .ref b16, .ref b17, .ref b18, .ref b19, .ref b20, .ref b21, .ref b22, .ref b23, .ref b24, .int (nI an), .int f2, .int f3, .int f4, .int f5])), (b2, .inl (kI, 3840, .inl cw)), (b3, .inl (kI, 24, .inl (upd (fun j => nI (lc j)) a 0))), (b4, .inl (kZ, 24, .inl (fun j => x_b (z j))))] := hD
                rw [(show upd (fun j => nI (lc j)) a 0 = fun j => nI (va_up lc a 0 j) from x_updL lc a 0)] at hP hD
                have hP : va_P (dC, dI) xCl [(m0, .inr (6, [.int 0, .int (nI nA), .ref b1, .ref b2, .ref b3, .ref b4, .ref b5, .ref b6, .ref b7, .int (nI kn), .ref b8, .int (nI ln), .ref b9, .ref b10, .ref b11, .ref b12, .ref b13, .ref b14, .int f1, .ref b15, .ref b16, .ref b17, .ref b18, .ref b19, .ref b20, .ref b21, .ref b22, .ref b23, .ref b24, .int (nI an), .int f2, .int f3, .int f4, .int f5])), (b2, .inl (kI, 3840, .inl cw)), (b3, .inl (kI, 24, .inl (fun j => nI (va_up lc a 0 j)))), (b4, .inl (kZ, 24, .inl (fun j => x_b (z j))))] H := hP
                have hD : va_D A [(m0, .inr (6, [.int 0, .int (nI nA), .ref b1, .ref b2, .ref b3, .ref b4, .ref b5, .ref b6, .ref b7, .int (nI kn), .ref b8, .int (nI ln), .ref b9, .ref b10, .ref b11, .ref b12, .ref b13, .ref b14, .int f1, .ref b15, .ref b16, .ref b17, .ref b18, .ref b19, .ref b20, .ref b21, .ref b22, .ref b23, .ref b24, .int (nI an), .int f2, .int f3, .int f4, .int f5])), (b2, .inl (kI, 3840, .inl cw)), (b3, .inl (kI, 24, .inl (fun j => nI (va_up lc a 0 j)))), (b4, .inl (kZ, 24, .inl (fun j => x_b (z j))))] := hD
                have hbd := (wBad_bad hklt c72).symm.trans hbd
                refine lv_iload_n hx hb dMod_seal_82 rfl (lv_at hl 2 rfl) ?_
                exact hret (nI k) ((va_up lc a 0, z)) _ _ _ (⟨by rw [← hbd], by rw [← hbd], by rw [← hbd]⟩) (hP.sub [0, 1, 2, 3] rfl) (hD.sub [0, 1, 2, 3] (by decide) rfl) hS dMod_seal_83
        exact loop41 _ 0 (Nat.lt_succ_self _) (Nat.zero_le _) (rfl) _ _ (hP.sub [3, 0, 1, 2] rfl) (hD.sub [3, 0, 1, 2] (by decide) rfl) hS _ (lv_sub hl [1, 2, 0] rfl)
      · exact absurd c34 (by decide)
    · have c19 : (z a) = true := Bool.of_not_eq_false (fun z9 => c19 (x_b0.mpr z9))
      exact absurd hz (by rw [c19]; decide)
  · have c6 : xHas nA (nI a) = false := Bool.eq_false_iff.mpr (fun z9 => c6 (x_i01.mpr z9))
    exact absurd (xHas_nI ha (by omega)) (by rw [c6]; decide)

set_option maxHeartbeats 4000000 in
set_option maxRecDepth 100000 in
theorem kM_arg (l : Launch) (dC : Nat → ClassId) (dI : Nat → Nat → Nat) (kI kJ kZ : ClassId) (m0 : Nat) (b1 : Nat) (b2 : Nat) (b3 : Nat) (b4 : Nat) (b5 : Nat) (b6 : Nat) (b7 : Nat) (b8 : Nat) (b9 : Nat) (b10 : Nat) (b11 : Nat) (b12 : Nat) (b13 : Nat) (b14 : Nat) (b15 : Nat) (b16 : Nat) (b17 : Nat) (b18 : Nat) (b19 : Nat) (b20 : Nat) (b21 : Nat) (b22 : Nat) (b23 : Nat) (b24 : Nat) (nA : Nat) (kn : Nat) (ln : Nat) (an : Nat) (f0 : Int32) (f2 : Int32) (f3 : Int32) (f4 : Int32) (f5 : Int32) (f1 : Int32) (ar : Nat → Int32) (v : Int32) (han : an < 8) :
    XM stX l yMod_argument wMod_argument { frames := 0, cells := 0, slots := 0, locals := 0 } (dC, dI) xCl (x_T kI kJ kZ) [(m0, .inr (6, [.int f0, .int (nI nA), .ref b1, .ref b2, .ref b3, .ref b4, .ref b5, .ref b6, .ref b7, .int (nI kn), .ref b8, .int (nI ln), .ref b9, .ref b10, .ref b11, .ref b12, .ref b13, .ref b14, .int f1, .ref b15, .ref b16, .ref b17, .ref b18, .ref b19, .ref b20, .ref b21, .ref b22, .ref b23, .ref b24, .int (nI an), .int f2, .int f3, .int f4, .int f5])), (b24, .inl (kI, 8, .inl ar))] [.ref m0, .int v] 0 0 x_eI (fun (r : Int32) (u : Unit) => r = nI (an + 1)) (fun (u : Unit) => [(m0, .inr (6, [.int 0, .int (nI nA), .ref b1, .ref b2, .ref b3, .ref b4, .ref b5, .ref b6, .ref b7, .int (nI kn), .ref b8, .int (nI ln), .ref b9, .ref b10, .ref b11, .ref b12, .ref b13, .ref b14, .int f1, .ref b15, .ref b16, .ref b17, .ref b18, .ref b19, .ref b20, .ref b21, .ref b22, .ref b23, .ref b24, .int (nI (an + 1)), .int f2, .int f3, .int f4, .int f5])), (b24, .inl (kI, 8, .inl (upd ar an v)))]) := by
  refine XM.ofI (cc := cMod_argument) (maxL := 2) (by decide) rfl (Nat.le_of_ble_eq_true rfl) ?_
  intro p e s m below meth c A Q hx hb hr hml hown hts hlocks hin hA hK hP hD hX hS ls hl hret
  have hl : lv_has ls 2 [(0, .ref m0), (1, .int v)] := hl
  refine lv_aload_n hx hb dMod_argument_0 rfl (lv_at hl 0 rfl) ?_
  refine lv_iconst (v := 0) hx hb dMod_argument_1 (by decide) ?_
  refine va_put (D := (dC, dI)) (ci := 6) (v := .int 0) (ty := .int) (C := RMod) (T := TMod) (N := 34) hx hb hts (fun w h => List.mem_cons_of_mem _ (layMod w h)) tyMod tykMod nmMod hown hK hP hD hS 0 rfl rfl 0 (by decide) (hts (.fieldLink RMod 83 "CallLedgerModel" "thrown" "I") (List.mem_cons_of_mem _ gw644)) (fun _ h9 => h9) rfl (by decide +kernel) rfl rfl (Nat.le_of_ble_eq_true rfl) dMod_argument_2 (fun H locs hP hD hS => ?_)
  have hP : va_P (dC, dI) xCl [(m0, .inr (6, [.int 0, .int (nI nA), .ref b1, .ref b2, .ref b3, .ref b4, .ref b5, .ref b6, .ref b7, .int (nI kn), .ref b8, .int (nI ln), .ref b9, .ref b10, .ref b11, .ref b12, .ref b13, .ref b14, .int f1, .ref b15, .ref b16, .ref b17, .ref b18, .ref b19, .ref b20, .ref b21, .ref b22, .ref b23, .ref b24, .int (nI an), .int f2, .int f3, .int f4, .int f5])), (b24, .inl (kI, 8, .inl ar))] H := hP
  have hD : va_D A [(m0, .inr (6, [.int 0, .int (nI nA), .ref b1, .ref b2, .ref b3, .ref b4, .ref b5, .ref b6, .ref b7, .int (nI kn), .ref b8, .int (nI ln), .ref b9, .ref b10, .ref b11, .ref b12, .ref b13, .ref b14, .int f1, .ref b15, .ref b16, .ref b17, .ref b18, .ref b19, .ref b20, .ref b21, .ref b22, .ref b23, .ref b24, .int (nI an), .int f2, .int f3, .int f4, .int f5])), (b24, .inl (kI, 8, .inl ar))] := hD
  refine lv_aload_n hx hb dMod_argument_5 rfl (lv_at hl 0 rfl) ?_
  refine va_get (D := (dC, dI)) (ci := 6) (v := .int (nI an)) (C := RMod) (T := TMod) (N := 34) hx hb hts (fun w h => List.mem_cons_of_mem _ (layMod w h)) hown hK hP 0 rfl rfl 29 (by decide) (hts (.fieldLink RMod 104 "CallLedgerModel" "argumentCount" "I") (List.mem_cons_of_mem _ gw673)) (fun _ h9 => h9) rfl dMod_argument_6 ?_
  refine lv_bipush (v := 8) hx hb dMod_argument_9 (by decide) ?_
  refine lv_icmp_ne (tgt := 16) hx hb dMod_argument_11 (by decide) (fun c11 => ?_) (fun c11 => ?_)
  · have c11 : ¬ (an = 8) := fun z9 => c11 ((nI_eq (a := an) (b := 8) (by omega) (by omega)).mpr z9)
    refine lv_aload_n hx hb dMod_argument_16 rfl (lv_at hl 0 rfl) ?_
    refine va_get (D := (dC, dI)) (ci := 6) (v := .ref b24) (C := RMod) (T := TMod) (N := 34) hx hb hts (fun w h => List.mem_cons_of_mem _ (layMod w h)) hown hK hP 0 rfl rfl 28 (by decide) (hts (.fieldLink RMod 80 "CallLedgerModel" "arguments" "[I") (List.mem_cons_of_mem _ gw672)) (fun _ h9 => h9) rfl dMod_argument_17 ?_
    refine lv_aload_n hx hb dMod_argument_20 rfl (lv_at hl 0 rfl) ?_
    refine va_get (D := (dC, dI)) (ci := 6) (v := .int (nI an)) (C := RMod) (T := TMod) (N := 34) hx hb hts (fun w h => List.mem_cons_of_mem _ (layMod w h)) hown hK hP 0 rfl rfl 29 (by decide) (hts (.fieldLink RMod 104 "CallLedgerModel" "argumentCount" "I") (List.mem_cons_of_mem _ gw673)) (fun _ h9 => h9) rfl dMod_argument_21 ?_
    refine lv_iload_n hx hb dMod_argument_24 rfl (lv_at hl 1 rfl) ?_
    refine x_iast (j := an) hx hb hK hP hD hS 1 0 rfl rfl rfl (by omega) (by omega) dMod_argument_25 (fun H locs hP hD hS => ?_)
    have hP : va_P (dC, dI) xCl [(m0, .inr (6, [.int 0, .int (nI nA), .ref b1, .ref b2, .ref b3, .ref b4, .ref b5, .ref b6, .ref b7, .int (nI kn), .ref b8, .int (nI ln), .ref b9, .ref b10, .ref b11, .ref b12, .ref b13, .ref b14, .int f1, .ref b15, .ref b16, .ref b17, .ref b18, .ref b19, .ref b20, .ref b21, .ref b22, .ref b23, .ref b24, .int (nI an), .int f2, .int f3, .int f4, .int f5])), (b24, .inl (kI, 8, .inl (upd ar an v)))] H := hP
    have hD : va_D A [(m0, .inr (6, [.int 0, .int (nI nA), .ref b1, .ref b2, .ref b3, .ref b4, .ref b5, .ref b6, .ref b7, .int (nI kn), .ref b8, .int (nI ln), .ref b9, .ref b10, .ref b11, .ref b12, .ref b13, .ref b14, .int f1, .ref b15, .ref b16, .ref b17, .ref b18, .ref b19, .ref b20, .ref b21, .ref b22, .ref b23, .ref b24, .int (nI an), .int f2, .int f3, .int f4, .int f5])), (b24, .inl (kI, 8, .inl (upd ar an v)))] := hD
    refine lv_aload_n hx hb dMod_argument_26 rfl (lv_at hl 0 rfl) ?_
    refine lv_dup hx hb dMod_argument_27 rfl ?_
    refine va_get (D := (dC, dI)) (ci := 6) (v := .int (nI an)) (C := RMod) (T := TMod) (N := 34) hx hb hts (fun w h => List.mem_cons_of_mem _ (layMod w h)) hown hK hP 0 rfl rfl 29 (by decide) (hts (.fieldLink RMod 104 "CallLedgerModel" "argumentCount" "I") (List.mem_cons_of_mem _ gw673)) (fun _ h9 => h9) rfl dMod_argument_28 ?_
    refine lv_iconst (v := 1) hx hb dMod_argument_31 (by decide) ?_
    refine lv_iadd hx hb dMod_argument_32 ?_
    refine x_topi (y := nI (an + 1)) (nI_1 _) ?_
    refine va_put (D := (dC, dI)) (ci := 6) (v := .int (nI (an + 1))) (ty := .int) (C := RMod) (T := TMod) (N := 34) hx hb hts (fun w h => List.mem_cons_of_mem _ (layMod w h)) tyMod tykMod nmMod hown hK hP hD hS 0 rfl rfl 29 (by decide) (hts (.fieldLink RMod 104 "CallLedgerModel" "argumentCount" "I") (List.mem_cons_of_mem _ gw673)) (fun _ h9 => h9) rfl (by decide +kernel) rfl rfl (Nat.le_of_ble_eq_true rfl) dMod_argument_33 (fun H locs hP hD hS => ?_)
    have hP : va_P (dC, dI) xCl [(m0, .inr (6, [.int 0, .int (nI nA), .ref b1, .ref b2, .ref b3, .ref b4, .ref b5, .ref b6, .ref b7, .int (nI kn), .ref b8, .int (nI ln), .ref b9, .ref b10, .ref b11, .ref b12, .ref b13, .ref b14, .int f1, .ref b15, .ref b16, .ref b17, .ref b18, .ref b19, .ref b20, .ref b21, .ref b22, .ref b23, .ref b24, .int (nI (an + 1)), .int f2, .int f3, .int f4, .int f5])), (b24, .inl (kI, 8, .inl (upd ar an v)))] H := hP
    have hD : va_D A [(m0, .inr (6, [.int 0, .int (nI nA), .ref b1, .ref b2, .ref b3, .ref b4, .ref b5, .ref b6, .ref b7, .int (nI kn), .ref b8, .int (nI ln), .ref b9, .ref b10, .ref b11, .ref b12, .ref b13, .ref b14, .int f1, .ref b15, .ref b16, .ref b17, .ref b18, .ref b19, .ref b20, .ref b21, .ref b22, .ref b23, .ref b24, .int (nI (an + 1)), .int f2, .int f3, .int f4, .int f5])), (b24, .inl (kI, 8, .inl (upd ar an v)))] := hD
    refine lv_aload_n hx hb dMod_argument_36 rfl (lv_at hl 0 rfl) ?_
    refine va_get (D := (dC, dI)) (ci := 6) (v := .int (nI (an + 1))) (C := RMod) (T := TMod) (N := 34) hx hb hts (fun w h => List.mem_cons_of_mem _ (layMod w h)) hown hK hP 0 rfl rfl 29 (by decide) (hts (.fieldLink RMod 104 "CallLedgerModel" "argumentCount" "I") (List.mem_cons_of_mem _ gw673)) (fun _ h9 => h9) rfl dMod_argument_37 ?_
    exact hret (nI (an + 1)) (()) _ _ _ (rfl) (hP.sub [0, 1] rfl) (hD.sub [0, 1] (by decide) rfl) hS dMod_argument_40
  · have c11 : an = 8 := (nI_eq (a := an) (b := 8) (by omega) (by omega)).mp c11
    exfalso; omega

set_option maxHeartbeats 4000000 in
set_option maxRecDepth 100000 in
theorem kM_argFull (l : Launch) (dC : Nat → ClassId) (dI : Nat → Nat → Nat) (kI kJ kZ : ClassId) (m0 : Nat) (b1 : Nat) (b2 : Nat) (b3 : Nat) (b4 : Nat) (b5 : Nat) (b6 : Nat) (b7 : Nat) (b8 : Nat) (b9 : Nat) (b10 : Nat) (b11 : Nat) (b12 : Nat) (b13 : Nat) (b14 : Nat) (b15 : Nat) (b16 : Nat) (b17 : Nat) (b18 : Nat) (b19 : Nat) (b20 : Nat) (b21 : Nat) (b22 : Nat) (b23 : Nat) (b24 : Nat) (nA : Nat) (kn : Nat) (ln : Nat) (an : Nat) (f0 : Int32) (f2 : Int32) (f3 : Int32) (f4 : Int32) (f5 : Int32) (f1 : Int32) (ar : Nat → Int32) (v : Int32) (han : an = 8) :
    XM stX l yMod_argument wMod_argument { frames := 0, cells := 0, slots := 0, locals := 0 } (dC, dI) xCl (x_T kI kJ kZ) [(m0, .inr (6, [.int f0, .int (nI nA), .ref b1, .ref b2, .ref b3, .ref b4, .ref b5, .ref b6, .ref b7, .int (nI kn), .ref b8, .int (nI ln), .ref b9, .ref b10, .ref b11, .ref b12, .ref b13, .ref b14, .int f1, .ref b15, .ref b16, .ref b17, .ref b18, .ref b19, .ref b20, .ref b21, .ref b22, .ref b23, .ref b24, .int (nI an), .int f2, .int f3, .int f4, .int f5])), (b24, .inl (kI, 8, .inl ar))] [.ref m0, .int v] 0 0 x_eI (fun (r : Int32) (u : Unit) => r = -1) (fun (u : Unit) => [(m0, .inr (6, [.int 0, .int (nI nA), .ref b1, .ref b2, .ref b3, .ref b4, .ref b5, .ref b6, .ref b7, .int (nI kn), .ref b8, .int (nI ln), .ref b9, .ref b10, .ref b11, .ref b12, .ref b13, .ref b14, .int f1, .ref b15, .ref b16, .ref b17, .ref b18, .ref b19, .ref b20, .ref b21, .ref b22, .ref b23, .ref b24, .int (nI an), .int f2, .int f3, .int f4, .int f5])), (b24, .inl (kI, 8, .inl ar))]) := by
  refine XM.ofI (cc := cMod_argument) (maxL := 2) (by decide) rfl (Nat.le_of_ble_eq_true rfl) ?_
  intro p e s m below meth c A Q hx hb hr hml hown hts hlocks hin hA hK hP hD hX hS ls hl hret
  have hl : lv_has ls 2 [(0, .ref m0), (1, .int v)] := hl
  refine lv_aload_n hx hb dMod_argument_0 rfl (lv_at hl 0 rfl) ?_
  refine lv_iconst (v := 0) hx hb dMod_argument_1 (by decide) ?_
  refine va_put (D := (dC, dI)) (ci := 6) (v := .int 0) (ty := .int) (C := RMod) (T := TMod) (N := 34) hx hb hts (fun w h => List.mem_cons_of_mem _ (layMod w h)) tyMod tykMod nmMod hown hK hP hD hS 0 rfl rfl 0 (by decide) (hts (.fieldLink RMod 83 "CallLedgerModel" "thrown" "I") (List.mem_cons_of_mem _ gw644)) (fun _ h9 => h9) rfl (by decide +kernel) rfl rfl (Nat.le_of_ble_eq_true rfl) dMod_argument_2 (fun H locs hP hD hS => ?_)
  have hP : va_P (dC, dI) xCl [(m0, .inr (6, [.int 0, .int (nI nA), .ref b1, .ref b2, .ref b3, .ref b4, .ref b5, .ref b6, .ref b7, .int (nI kn), .ref b8, .int (nI ln), .ref b9, .ref b10, .ref b11, .ref b12, .ref b13, .ref b14, .int f1, .ref b15, .ref b16, .ref b17, .ref b18, .ref b19, .ref b20, .ref b21, .ref b22, .ref b23, .ref b24, .int (nI an), .int f2, .int f3, .int f4, .int f5])), (b24, .inl (kI, 8, .inl ar))] H := hP
  have hD : va_D A [(m0, .inr (6, [.int 0, .int (nI nA), .ref b1, .ref b2, .ref b3, .ref b4, .ref b5, .ref b6, .ref b7, .int (nI kn), .ref b8, .int (nI ln), .ref b9, .ref b10, .ref b11, .ref b12, .ref b13, .ref b14, .int f1, .ref b15, .ref b16, .ref b17, .ref b18, .ref b19, .ref b20, .ref b21, .ref b22, .ref b23, .ref b24, .int (nI an), .int f2, .int f3, .int f4, .int f5])), (b24, .inl (kI, 8, .inl ar))] := hD
  refine lv_aload_n hx hb dMod_argument_5 rfl (lv_at hl 0 rfl) ?_
  refine va_get (D := (dC, dI)) (ci := 6) (v := .int (nI an)) (C := RMod) (T := TMod) (N := 34) hx hb hts (fun w h => List.mem_cons_of_mem _ (layMod w h)) hown hK hP 0 rfl rfl 29 (by decide) (hts (.fieldLink RMod 104 "CallLedgerModel" "argumentCount" "I") (List.mem_cons_of_mem _ gw673)) (fun _ h9 => h9) rfl dMod_argument_6 ?_
  refine lv_bipush (v := 8) hx hb dMod_argument_9 (by decide) ?_
  refine lv_icmp_ne (tgt := 16) hx hb dMod_argument_11 (by decide) (fun c11 => ?_) (fun c11 => ?_)
  · have c11 : ¬ (an = 8) := fun z9 => c11 ((nI_eq (a := an) (b := 8) (by omega) (by omega)).mpr z9)
    exfalso; omega
  · have c11 : an = 8 := (nI_eq (a := an) (b := 8) (by omega) (by omega)).mp c11
    refine lv_iconst (v := (-1)) hx hb dMod_argument_14 (by decide) ?_
    exact hret (-1) (()) _ _ _ (rfl) (hP.sub [0, 1] rfl) (hD.sub [0, 1] (by decide) rfl) hS dMod_argument_15

set_option maxHeartbeats 4000000 in
set_option maxRecDepth 100000 in
theorem kM_balX (l : Launch) (dC : Nat → ClassId) (dI : Nat → Nat → Nat) (kI kJ kZ : ClassId) (m0 : Nat) (b1 : Nat) (b2 : Nat) (b3 : Nat) (b4 : Nat) (b5 : Nat) (b6 : Nat) (b7 : Nat) (b8 : Nat) (b9 : Nat) (b10 : Nat) (b11 : Nat) (b12 : Nat) (b13 : Nat) (b14 : Nat) (b15 : Nat) (b16 : Nat) (b17 : Nat) (b18 : Nat) (b19 : Nat) (b20 : Nat) (b21 : Nat) (b22 : Nat) (b23 : Nat) (b24 : Nat) (nA : Nat) (kn : Nat) (ln : Nat) (an : Nat) (f0 : Int32) (f2 : Int32) (f3 : Int32) (f4 : Int32) (f5 : Int32) (f1 : Int32) (x : Int32) (hnA : nA ≤ 24) (hxa : xHas nA x = false) :
    XM stX l yMod_balance wMod_balance { frames := 1, cells := 0, slots := 0, locals := 21 } (dC, dI) xCl (x_T kI kJ kZ) [(m0, .inr (6, [.int f0, .int (nI nA), .ref b1, .ref b2, .ref b3, .ref b4, .ref b5, .ref b6, .ref b7, .int (nI kn), .ref b8, .int (nI ln), .ref b9, .ref b10, .ref b11, .ref b12, .ref b13, .ref b14, .int f1, .ref b15, .ref b16, .ref b17, .ref b18, .ref b19, .ref b20, .ref b21, .ref b22, .ref b23, .ref b24, .int (nI an), .int f2, .int f3, .int f4, .int f5]))] [.ref m0, .int x] 0 0 x_eI (fun (r : Int32) (u : Unit) => r = 0) (fun (u : Unit) => [(m0, .inr (6, [.int 1, .int (nI nA), .ref b1, .ref b2, .ref b3, .ref b4, .ref b5, .ref b6, .ref b7, .int (nI kn), .ref b8, .int (nI ln), .ref b9, .ref b10, .ref b11, .ref b12, .ref b13, .ref b14, .int f1, .ref b15, .ref b16, .ref b17, .ref b18, .ref b19, .ref b20, .ref b21, .ref b22, .ref b23, .ref b24, .int (nI an), .int f2, .int f3, .int f4, .int f5]))]) := by
  refine XM.ofI (cc := cMod_balance) (maxL := 2) (by decide) rfl (Nat.le_of_ble_eq_true rfl) ?_
  intro p e s m below meth c A Q hx hb hr hml hown hts hlocks hin hA hK hP hD hX hS ls hl hret
  have hl : lv_has ls 2 [(0, .ref m0), (1, .int x)] := hl
  refine lv_aload_n hx hb dMod_balance_0 rfl (lv_at hl 0 rfl) ?_
  refine lv_aload_n hx hb dMod_balance_1 rfl (lv_at hl 0 rfl) ?_
  refine lv_iload_n hx hb dMod_balance_2 rfl (lv_at hl 1 rfl) ?_
  refine XM.callVi (As := [.int x]) (rest := [.ref m0]) (wr := []) stX_ok ⟨hx, hb, hml, hown, hts⟩ (kM_noAcc l dC dI kI kJ kZ m0 b1 b2 b3 b4 b5 b6 b7 b8 b9 b10 b11 b12 b13 b14 b15 b16 b17 b18 b19 b20 b21 b22 b23 b24 nA kn ln an f0 f2 f3 f4 f5 f1 x ) (cwV 1 hts (x_gV gw765 gw767 gw19 gw43 gw768) rfl rfl rfl (by decide +kernel) ⟨Nat.le_of_ble_eq_true rfl, Nat.le_of_ble_eq_true rfl⟩) hK hP hD hS hA hX [0] [] rfl rfl (by decide) (by decide) (by decide) rfl rfl rfl rfl hl.1 (Nat.le_of_ble_eq_true rfl) dMod_balance_3 ⟨Nat.le_of_ble_eq_true rfl, Nat.le_of_ble_eq_true rfl⟩ (fun r_2 u_1 H locs hw hP hD hS => ?_)
  obtain rfl := hw
  have hP : va_P (dC, dI) xCl [(m0, .inr (6, [.int f0, .int (nI nA), .ref b1, .ref b2, .ref b3, .ref b4, .ref b5, .ref b6, .ref b7, .int (nI kn), .ref b8, .int (nI ln), .ref b9, .ref b10, .ref b11, .ref b12, .ref b13, .ref b14, .int f1, .ref b15, .ref b16, .ref b17, .ref b18, .ref b19, .ref b20, .ref b21, .ref b22, .ref b23, .ref b24, .int (nI an), .int f2, .int f3, .int f4, .int f5]))] H := hP
  have hD : va_D A [(m0, .inr (6, [.int f0, .int (nI nA), .ref b1, .ref b2, .ref b3, .ref b4, .ref b5, .ref b6, .ref b7, .int (nI kn), .ref b8, .int (nI ln), .ref b9, .ref b10, .ref b11, .ref b12, .ref b13, .ref b14, .int f1, .ref b15, .ref b16, .ref b17, .ref b18, .ref b19, .ref b20, .ref b21, .ref b22, .ref b23, .ref b24, .int (nI an), .int f2, .int f3, .int f4, .int f5]))] := hD
  refine lv_if_eq (tgt := 13) hx hb dMod_balance_6 (by decide) (fun c6 => ?_) (fun c6 => ?_)
  · have c6 : (xHas nA x = true) := x_i01.mp c6
    exact absurd c6 (by rw [hxa]; decide)
  · have c6 : xHas nA x = false := Bool.eq_false_iff.mpr (fun z9 => c6 (x_i01.mpr z9))
    refine lv_iconst (v := 1) hx hb dMod_balance_9 (by decide) ?_
    refine lv_goto (tgt := 14) hx hb dMod_balance_10 (by decide) ?_
    refine va_put (D := (dC, dI)) (ci := 6) (v := .int 1) (ty := .int) (C := RMod) (T := TMod) (N := 34) hx hb hts (fun w h => List.mem_cons_of_mem _ (layMod w h)) tyMod tykMod nmMod hown hK hP hD hS 0 rfl rfl 0 (by decide) (hts (.fieldLink RMod 83 "CallLedgerModel" "thrown" "I") (List.mem_cons_of_mem _ gw644)) (fun _ h9 => h9) rfl (by decide +kernel) rfl rfl (Nat.le_of_ble_eq_true rfl) dMod_balance_14 (fun H locs hP hD hS => ?_)
    have hP : va_P (dC, dI) xCl [(m0, .inr (6, [.int 1, .int (nI nA), .ref b1, .ref b2, .ref b3, .ref b4, .ref b5, .ref b6, .ref b7, .int (nI kn), .ref b8, .int (nI ln), .ref b9, .ref b10, .ref b11, .ref b12, .ref b13, .ref b14, .int f1, .ref b15, .ref b16, .ref b17, .ref b18, .ref b19, .ref b20, .ref b21, .ref b22, .ref b23, .ref b24, .int (nI an), .int f2, .int f3, .int f4, .int f5]))] H := hP
    have hD : va_D A [(m0, .inr (6, [.int 1, .int (nI nA), .ref b1, .ref b2, .ref b3, .ref b4, .ref b5, .ref b6, .ref b7, .int (nI kn), .ref b8, .int (nI ln), .ref b9, .ref b10, .ref b11, .ref b12, .ref b13, .ref b14, .int f1, .ref b15, .ref b16, .ref b17, .ref b18, .ref b19, .ref b20, .ref b21, .ref b22, .ref b23, .ref b24, .int (nI an), .int f2, .int f3, .int f4, .int f5]))] := hD
    refine lv_aload_n hx hb dMod_balance_17 rfl (lv_at hl 0 rfl) ?_
    refine va_get (D := (dC, dI)) (ci := 6) (v := .int 1) (C := RMod) (T := TMod) (N := 34) hx hb hts (fun w h => List.mem_cons_of_mem _ (layMod w h)) hown hK hP 0 rfl rfl 0 (by decide) (hts (.fieldLink RMod 83 "CallLedgerModel" "thrown" "I") (List.mem_cons_of_mem _ gw644)) (fun _ h9 => h9) rfl dMod_balance_18 ?_
    refine lv_if_le (tgt := 28) hx hb dMod_balance_21 (by decide) (fun c21 => ?_) (fun c21 => ?_)
    · exact absurd c21 (by decide)
    · refine lv_iconst (v := 0) hx hb dMod_balance_24 (by decide) ?_
      refine lv_goto (tgt := 34) hx hb dMod_balance_25 (by decide) ?_
      exact hret 0 (()) _ _ _ (rfl) (hP.sub [0] rfl) (hD.sub [0] (by decide) rfl) hS dMod_balance_34

set_option maxHeartbeats 4000000 in
set_option maxRecDepth 100000 in
theorem kM_bal (l : Launch) (dC : Nat → ClassId) (dI : Nat → Nat → Nat) (kI kJ kZ : ClassId) (m0 : Nat) (b1 : Nat) (b2 : Nat) (b3 : Nat) (b4 : Nat) (b5 : Nat) (b6 : Nat) (b7 : Nat) (b8 : Nat) (b9 : Nat) (b10 : Nat) (b11 : Nat) (b12 : Nat) (b13 : Nat) (b14 : Nat) (b15 : Nat) (b16 : Nat) (b17 : Nat) (b18 : Nat) (b19 : Nat) (b20 : Nat) (b21 : Nat) (b22 : Nat) (b23 : Nat) (b24 : Nat) (nA : Nat) (kn : Nat) (ln : Nat) (an : Nat) (f0 : Int32) (f2 : Int32) (f3 : Int32) (f4 : Int32) (f5 : Int32) (f1 : Int32) (bal : Nat → Int32) (a : Nat) (hnA : nA ≤ 24) (ha : a < nA) :
    XM stX l yMod_balance wMod_balance { frames := 1, cells := 0, slots := 0, locals := 21 } (dC, dI) xCl (x_T kI kJ kZ) [(m0, .inr (6, [.int f0, .int (nI nA), .ref b1, .ref b2, .ref b3, .ref b4, .ref b5, .ref b6, .ref b7, .int (nI kn), .ref b8, .int (nI ln), .ref b9, .ref b10, .ref b11, .ref b12, .ref b13, .ref b14, .int f1, .ref b15, .ref b16, .ref b17, .ref b18, .ref b19, .ref b20, .ref b21, .ref b22, .ref b23, .ref b24, .int (nI an), .int f2, .int f3, .int f4, .int f5])), (b1, .inl (kI, 24, .inl bal))] [.ref m0, .int (nI a)] 0 0 x_eI (fun (r : Int32) (u : Unit) => r = bal a) (fun (u : Unit) => [(m0, .inr (6, [.int 0, .int (nI nA), .ref b1, .ref b2, .ref b3, .ref b4, .ref b5, .ref b6, .ref b7, .int (nI kn), .ref b8, .int (nI ln), .ref b9, .ref b10, .ref b11, .ref b12, .ref b13, .ref b14, .int f1, .ref b15, .ref b16, .ref b17, .ref b18, .ref b19, .ref b20, .ref b21, .ref b22, .ref b23, .ref b24, .int (nI an), .int f2, .int f3, .int f4, .int f5])), (b1, .inl (kI, 24, .inl bal))]) := by
  refine XM.ofI (cc := cMod_balance) (maxL := 2) (by decide) rfl (Nat.le_of_ble_eq_true rfl) ?_
  intro p e s m below meth c A Q hx hb hr hml hown hts hlocks hin hA hK hP hD hX hS ls hl hret
  have hl : lv_has ls 2 [(0, .ref m0), (1, .int (nI a))] := hl
  refine lv_aload_n hx hb dMod_balance_0 rfl (lv_at hl 0 rfl) ?_
  refine lv_aload_n hx hb dMod_balance_1 rfl (lv_at hl 0 rfl) ?_
  refine lv_iload_n hx hb dMod_balance_2 rfl (lv_at hl 1 rfl) ?_
  refine XM.callVi (As := [.int (nI a)]) (rest := [.ref m0]) (wr := [(b1, .inl (kI, 24, .inl bal))]) stX_ok ⟨hx, hb, hml, hown, hts⟩ (kM_noAcc l dC dI kI kJ kZ m0 b1 b2 b3 b4 b5 b6 b7 b8 b9 b10 b11 b12 b13 b14 b15 b16 b17 b18 b19 b20 b21 b22 b23 b24 nA kn ln an f0 f2 f3 f4 f5 f1 (nI a) ) (cwV 1 hts (x_gV gw765 gw767 gw19 gw43 gw768) rfl rfl rfl (by decide +kernel) ⟨Nat.le_of_ble_eq_true rfl, Nat.le_of_ble_eq_true rfl⟩) hK hP hD hS hA hX [0] [1] rfl rfl (by decide) (by decide) (by decide) rfl rfl rfl rfl hl.1 (Nat.le_of_ble_eq_true rfl) dMod_balance_3 ⟨Nat.le_of_ble_eq_true rfl, Nat.le_of_ble_eq_true rfl⟩ (fun r_2 u_1 H locs hw hP hD hS => ?_)
  obtain rfl := hw
  have hP : va_P (dC, dI) xCl [(b1, .inl (kI, 24, .inl bal)), (m0, .inr (6, [.int f0, .int (nI nA), .ref b1, .ref b2, .ref b3, .ref b4, .ref b5, .ref b6, .ref b7, .int (nI kn), .ref b8, .int (nI ln), .ref b9, .ref b10, .ref b11, .ref b12, .ref b13, .ref b14, .int f1, .ref b15, .ref b16, .ref b17, .ref b18, .ref b19, .ref b20, .ref b21, .ref b22, .ref b23, .ref b24, .int (nI an), .int f2, .int f3, .int f4, .int f5]))] H := hP
  have hD : va_D A [(b1, .inl (kI, 24, .inl bal)), (m0, .inr (6, [.int f0, .int (nI nA), .ref b1, .ref b2, .ref b3, .ref b4, .ref b5, .ref b6, .ref b7, .int (nI kn), .ref b8, .int (nI ln), .ref b9, .ref b10, .ref b11, .ref b12, .ref b13, .ref b14, .int f1, .ref b15, .ref b16, .ref b17, .ref b18, .ref b19, .ref b20, .ref b21, .ref b22, .ref b23, .ref b24, .int (nI an), .int f2, .int f3, .int f4, .int f5]))] := hD
  refine lv_if_eq (tgt := 13) hx hb dMod_balance_6 (by decide) (fun c6 => ?_) (fun c6 => ?_)
  · have c6 : (xHas nA (nI a) = true) := x_i01.mp c6
    refine lv_iconst (v := 0) hx hb dMod_balance_13 (by decide) ?_
    refine va_put (D := (dC, dI)) (ci := 6) (v := .int 0) (ty := .int) (C := RMod) (T := TMod) (N := 34) hx hb hts (fun w h => List.mem_cons_of_mem _ (layMod w h)) tyMod tykMod nmMod hown hK hP hD hS 1 rfl rfl 0 (by decide) (hts (.fieldLink RMod 83 "CallLedgerModel" "thrown" "I") (List.mem_cons_of_mem _ gw644)) (fun _ h9 => h9) rfl (by decide +kernel) rfl rfl (Nat.le_of_ble_eq_true rfl) dMod_balance_14 (fun H locs hP hD hS => ?_)
    have hP : va_P (dC, dI) xCl [(b1, .inl (kI, 24, .inl bal)), (m0, .inr (6, [.int 0, .int (nI nA), .ref b1, .ref b2, .ref b3, .ref b4, .ref b5, .ref b6, .ref b7, .int (nI kn), .ref b8, .int (nI ln), .ref b9, .ref b10, .ref b11, .ref b12, .ref b13, .ref b14, .int f1, .ref b15, .ref b16, .ref b17, .ref b18, .ref b19, .ref b20, .ref b21, .ref b22, .ref b23, .ref b24, .int (nI an), .int f2, .int f3, .int f4, .int f5]))] H := hP
    have hD : va_D A [(b1, .inl (kI, 24, .inl bal)), (m0, .inr (6, [.int 0, .int (nI nA), .ref b1, .ref b2, .ref b3, .ref b4, .ref b5, .ref b6, .ref b7, .int (nI kn), .ref b8, .int (nI ln), .ref b9, .ref b10, .ref b11, .ref b12, .ref b13, .ref b14, .int f1, .ref b15, .ref b16, .ref b17, .ref b18, .ref b19, .ref b20, .ref b21, .ref b22, .ref b23, .ref b24, .int (nI an), .int f2, .int f3, .int f4, .int f5]))] := hD
    refine lv_aload_n hx hb dMod_balance_17 rfl (lv_at hl 0 rfl) ?_
    refine va_get (D := (dC, dI)) (ci := 6) (v := .int 0) (C := RMod) (T := TMod) (N := 34) hx hb hts (fun w h => List.mem_cons_of_mem _ (layMod w h)) hown hK hP 1 rfl rfl 0 (by decide) (hts (.fieldLink RMod 83 "CallLedgerModel" "thrown" "I") (List.mem_cons_of_mem _ gw644)) (fun _ h9 => h9) rfl dMod_balance_18 ?_
    refine lv_if_le (tgt := 28) hx hb dMod_balance_21 (by decide) (fun c21 => ?_) (fun c21 => ?_)
    · refine lv_aload_n hx hb dMod_balance_28 rfl (lv_at hl 0 rfl) ?_
      refine va_get (D := (dC, dI)) (ci := 6) (v := .ref b1) (C := RMod) (T := TMod) (N := 34) hx hb hts (fun w h => List.mem_cons_of_mem _ (layMod w h)) hown hK hP 1 rfl rfl 2 (by decide) (hts (.fieldLink RMod 7 "CallLedgerModel" "balances" "[I") (List.mem_cons_of_mem _ gw646)) (fun _ h9 => h9) rfl dMod_balance_29 ?_
      refine lv_iload_n hx hb dMod_balance_32 rfl (lv_at hl 1 rfl) ?_
      refine x_iald (j := a) hx hb hK hP 0 0 rfl rfl rfl (by omega) (by omega) dMod_balance_33 ?_
      exact hret (bal a) (()) _ _ _ (rfl) (hP.sub [1, 0] rfl) (hD.sub [1, 0] (by decide) rfl) hS dMod_balance_34
    · exact absurd c21 (by decide)
  · have c6 : xHas nA (nI a) = false := Bool.eq_false_iff.mpr (fun z9 => c6 (x_i01.mpr z9))
    exact absurd (xHas_nI ha (by omega)) (by rw [c6]; decide)

set_option maxHeartbeats 4000000 in
set_option maxRecDepth 100000 in
theorem kM_keyN (l : Launch) (dC : Nat → ClassId) (dI : Nat → Nat → Nat) (kI kJ kZ : ClassId) (m0 : Nat) (b1 : Nat) (b2 : Nat) (b3 : Nat) (b4 : Nat) (b5 : Nat) (b6 : Nat) (b7 : Nat) (b8 : Nat) (b9 : Nat) (b10 : Nat) (b11 : Nat) (b12 : Nat) (b13 : Nat) (b14 : Nat) (b15 : Nat) (b16 : Nat) (b17 : Nat) (b18 : Nat) (b19 : Nat) (b20 : Nat) (b21 : Nat) (b22 : Nat) (b23 : Nat) (b24 : Nat) (nA : Nat) (kn : Nat) (ln : Nat) (an : Nat) (f0 : Int32) (f2 : Int32) (f3 : Int32) (f4 : Int32) (f5 : Int32) (f1 : Int32) (ka : Nat → Int32) (kN : Nat → Int32) (x : Int32) (k : Int32) (hkn : kn ≤ 500) (hno : ∀ i, i < kn → ¬ mAt ka kN x k i) :
    XM stX l yMod_keyOf wMod_keyOf { frames := 0, cells := 0, slots := 0, locals := 0 } (dC, dI) xCl (x_T kI kJ kZ) [(m0, .inr (6, [.int f0, .int (nI nA), .ref b1, .ref b2, .ref b3, .ref b4, .ref b5, .ref b6, .ref b7, .int (nI kn), .ref b8, .int (nI ln), .ref b9, .ref b10, .ref b11, .ref b12, .ref b13, .ref b14, .int f1, .ref b15, .ref b16, .ref b17, .ref b18, .ref b19, .ref b20, .ref b21, .ref b22, .ref b23, .ref b24, .int (nI an), .int f2, .int f3, .int f4, .int f5])), (b5, .inl (kI, 500, .inl ka)), (b6, .inl (kI, 500, .inl kN))] [.ref m0, .int x, .int k] 0 0 x_eI (fun (r : Int32) (u : Unit) => r = -1) (fun (u : Unit) => [(m0, .inr (6, [.int f0, .int (nI nA), .ref b1, .ref b2, .ref b3, .ref b4, .ref b5, .ref b6, .ref b7, .int (nI kn), .ref b8, .int (nI ln), .ref b9, .ref b10, .ref b11, .ref b12, .ref b13, .ref b14, .int f1, .ref b15, .ref b16, .ref b17, .ref b18, .ref b19, .ref b20, .ref b21, .ref b22, .ref b23, .ref b24, .int (nI an), .int f2, .int f3, .int f4, .int f5])), (b5, .inl (kI, 500, .inl ka)), (b6, .inl (kI, 500, .inl kN))]) := by
  refine XM.ofI (cc := cMod_keyOf) (maxL := 4) (by decide) rfl (Nat.le_of_ble_eq_true rfl) ?_
  intro p e s m below meth c A Q hx hb hr hml hown hts hlocks hin hA hK hP hD hX hS ls hl hret
  have hl : lv_has ls 4 [(0, .ref m0), (1, .int x), (2, .int k)] := hl
  refine lv_iconst (v := 0) hx hb dMod_keyOf_0 (by decide) ?_
  refine lv_istore_n (lv' := [(3, .int 0), (0, .ref m0), (1, .int x), (2, .int k)]) hx hb dMod_keyOf_1 rfl hl (by decide) rfl (fun ls hl => ?_)
  have loop2 : ∀ (N : Nat) (i : Nat), ∀ (hN : kn - i < N) (hi : i ≤ kn) (H : Heap) (locs : List Loc), va_P (dC, dI) xCl [(m0, .inr (6, [.int f0, .int (nI nA), .ref b1, .ref b2, .ref b3, .ref b4, .ref b5, .ref b6, .ref b7, .int (nI kn), .ref b8, .int (nI ln), .ref b9, .ref b10, .ref b11, .ref b12, .ref b13, .ref b14, .int f1, .ref b15, .ref b16, .ref b17, .ref b18, .ref b19, .ref b20, .ref b21, .ref b22, .ref b23, .ref b24, .int (nI an), .int f2, .int f3, .int f4, .int f5])), (b5, .inl (kI, 500, .inl ka)), (b6, .inl (kI, 500, .inl kN))] H → va_D A [(m0, .inr (6, [.int f0, .int (nI nA), .ref b1, .ref b2, .ref b3, .ref b4, .ref b5, .ref b6, .ref b7, .int (nI kn), .ref b8, .int (nI ln), .ref b9, .ref b10, .ref b11, .ref b12, .ref b13, .ref b14, .int f1, .ref b15, .ref b16, .ref b17, .ref b18, .ref b19, .ref b20, .ref b21, .ref b22, .ref b23, .ref b24, .int (nI an), .int f2, .int f3, .int f4, .int f5])), (b5, .inl (kI, 500, .inl ka)), (b6, .inl (kI, 500, .inl kN))] → va_S A s.heap H locs → ∀ ls, lv_has ls 4 [(0, .ref m0), (1, .int x), (2, .int k), (3, .int (nI i))] → W p l e { frames := 0, cells := 0, slots := 0, locals := 0 } s m [.ref m0, .int x, .int k].toArray below meth c H locs 0 0 Q (F0 m 2 ls []) := by
    intro N
    induction N with
    | zero => intro i hN; exact absurd hN (Nat.not_lt_zero _)
    | succ N ih =>
      intro i hN hi H locs hP hD hS ls hl
      refine lv_iload_n hx hb dMod_keyOf_2 rfl (lv_at hl 3 rfl) ?_
      refine lv_aload_n hx hb dMod_keyOf_3 rfl (lv_at hl 0 rfl) ?_
      refine va_get (D := (dC, dI)) (ci := 6) (v := .int (nI kn)) (C := RMod) (T := TMod) (N := 34) hx hb hts (fun w h => List.mem_cons_of_mem _ (layMod w h)) hown hK hP 0 rfl rfl 9 (by decide) (hts (.fieldLink RMod 107 "CallLedgerModel" "keys" "I") (List.mem_cons_of_mem _ gw653)) (fun _ h9 => h9) rfl dMod_keyOf_4 ?_
      refine lv_icmp_ge (tgt := 38) hx hb dMod_keyOf_7 (by decide) (fun c7 => ?_) (fun c7 => ?_)
      · have c7 : kn ≤ i := (nI_leI (a := kn) (b := i) (by omega) (by omega)).mp c7
        refine lv_iconst (v := (-1)) hx hb dMod_keyOf_38 (by decide) ?_
        exact hret (-1) (()) _ _ _ (rfl) (hP.sub [0, 1, 2] rfl) (hD.sub [0, 1, 2] (by decide) rfl) hS dMod_keyOf_39
      · have c7 : ¬ (kn ≤ i) := fun z9 => c7 ((nI_leI (a := kn) (b := i) (by omega) (by omega)).mpr z9)
        refine lv_aload_n hx hb dMod_keyOf_10 rfl (lv_at hl 0 rfl) ?_
        refine va_get (D := (dC, dI)) (ci := 6) (v := .ref b5) (C := RMod) (T := TMod) (N := 34) hx hb hts (fun w h => List.mem_cons_of_mem _ (layMod w h)) hown hK hP 0 rfl rfl 6 (by decide) (hts (.fieldLink RMod 23 "CallLedgerModel" "keyAccounts" "[I") (List.mem_cons_of_mem _ gw650)) (fun _ h9 => h9) rfl dMod_keyOf_11 ?_
        refine lv_iload_n hx hb dMod_keyOf_14 rfl (lv_at hl 3 rfl) ?_
        refine x_iald (j := i) hx hb hK hP 1 0 rfl rfl rfl (by omega) (by omega) dMod_keyOf_15 ?_
        refine lv_iload_n hx hb dMod_keyOf_16 rfl (lv_at hl 1 rfl) ?_
        refine lv_icmp_ne (tgt := 32) hx hb dMod_keyOf_17 (by decide) (fun c17 => ?_) (fun c17 => ?_)
        · refine lv_iinc (v := nI (i + 1)) (lv' := [(3, .int (nI (i + 1))), (0, .ref m0), (1, .int x), (2, .int k)]) hx hb dMod_keyOf_32 hl (k := 3) rfl (nI_1 _) (by decide) rfl (fun ls hl => ?_)
          refine lv_goto (tgt := 2) hx hb dMod_keyOf_35 (by decide) ?_
          exact ih (i + 1) (by omega) (by omega) _ _ (hP.sub [0, 1, 2] rfl) (hD.sub [0, 1, 2] (by decide) rfl) hS _ (lv_sub hl [1, 2, 3, 0] rfl)
        · refine lv_aload_n hx hb dMod_keyOf_20 rfl (lv_at hl 0 rfl) ?_
          refine va_get (D := (dC, dI)) (ci := 6) (v := .ref b6) (C := RMod) (T := TMod) (N := 34) hx hb hts (fun w h => List.mem_cons_of_mem _ (layMod w h)) hown hK hP 0 rfl rfl 7 (by decide) (hts (.fieldLink RMod 26 "CallLedgerModel" "keyNames" "[I") (List.mem_cons_of_mem _ gw651)) (fun _ h9 => h9) rfl dMod_keyOf_21 ?_
          refine lv_iload_n hx hb dMod_keyOf_24 rfl (lv_at hl 3 rfl) ?_
          refine x_iald (j := i) hx hb hK hP 2 0 rfl rfl rfl (by omega) (by omega) dMod_keyOf_25 ?_
          refine lv_iload_n hx hb dMod_keyOf_26 rfl (lv_at hl 2 rfl) ?_
          refine lv_icmp_ne (tgt := 32) hx hb dMod_keyOf_27 (by decide) (fun c27 => ?_) (fun c27 => ?_)
          · refine lv_iinc (v := nI (i + 1)) (lv' := [(3, .int (nI (i + 1))), (0, .ref m0), (1, .int x), (2, .int k)]) hx hb dMod_keyOf_32 hl (k := 3) rfl (nI_1 _) (by decide) rfl (fun ls hl => ?_)
            refine lv_goto (tgt := 2) hx hb dMod_keyOf_35 (by decide) ?_
            exact ih (i + 1) (by omega) (by omega) _ _ (hP.sub [0, 1, 2] rfl) (hD.sub [0, 1, 2] (by decide) rfl) hS _ (lv_sub hl [1, 2, 3, 0] rfl)
          · exact absurd ⟨c17, c27⟩ (hno i (by omega))
  exact loop2 _ 0 (Nat.lt_succ_self _) (Nat.zero_le _) _ _ (hP.sub [0, 1, 2] rfl) (hD.sub [0, 1, 2] (by decide) rfl) hS _ (lv_sub hl [1, 2, 3, 0] rfl)

set_option maxHeartbeats 4000000 in
set_option maxRecDepth 100000 in
theorem kM_keyS (l : Launch) (dC : Nat → ClassId) (dI : Nat → Nat → Nat) (kI kJ kZ : ClassId) (m0 : Nat) (b1 : Nat) (b2 : Nat) (b3 : Nat) (b4 : Nat) (b5 : Nat) (b6 : Nat) (b7 : Nat) (b8 : Nat) (b9 : Nat) (b10 : Nat) (b11 : Nat) (b12 : Nat) (b13 : Nat) (b14 : Nat) (b15 : Nat) (b16 : Nat) (b17 : Nat) (b18 : Nat) (b19 : Nat) (b20 : Nat) (b21 : Nat) (b22 : Nat) (b23 : Nat) (b24 : Nat) (nA : Nat) (kn : Nat) (ln : Nat) (an : Nat) (f0 : Int32) (f2 : Int32) (f3 : Int32) (f4 : Int32) (f5 : Int32) (f1 : Int32) (ka : Nat → Int32) (kN : Nat → Int32) (x : Int32) (k : Int32) (q : Nat) (hkn : kn ≤ 500) (hq : q < kn) (hqa : mAt ka kN x k q) (hql : ∀ j, j < q → ¬ mAt ka kN x k j) :
    XM stX l yMod_keyOf wMod_keyOf { frames := 0, cells := 0, slots := 0, locals := 0 } (dC, dI) xCl (x_T kI kJ kZ) [(m0, .inr (6, [.int f0, .int (nI nA), .ref b1, .ref b2, .ref b3, .ref b4, .ref b5, .ref b6, .ref b7, .int (nI kn), .ref b8, .int (nI ln), .ref b9, .ref b10, .ref b11, .ref b12, .ref b13, .ref b14, .int f1, .ref b15, .ref b16, .ref b17, .ref b18, .ref b19, .ref b20, .ref b21, .ref b22, .ref b23, .ref b24, .int (nI an), .int f2, .int f3, .int f4, .int f5])), (b5, .inl (kI, 500, .inl ka)), (b6, .inl (kI, 500, .inl kN))] [.ref m0, .int x, .int k] 0 0 x_eI (fun (r : Int32) (u : Unit) => r = nI q) (fun (u : Unit) => [(m0, .inr (6, [.int f0, .int (nI nA), .ref b1, .ref b2, .ref b3, .ref b4, .ref b5, .ref b6, .ref b7, .int (nI kn), .ref b8, .int (nI ln), .ref b9, .ref b10, .ref b11, .ref b12, .ref b13, .ref b14, .int f1, .ref b15, .ref b16, .ref b17, .ref b18, .ref b19, .ref b20, .ref b21, .ref b22, .ref b23, .ref b24, .int (nI an), .int f2, .int f3, .int f4, .int f5])), (b5, .inl (kI, 500, .inl ka)), (b6, .inl (kI, 500, .inl kN))]) := by
  refine XM.ofI (cc := cMod_keyOf) (maxL := 4) (by decide) rfl (Nat.le_of_ble_eq_true rfl) ?_
  intro p e s m below meth c A Q hx hb hr hml hown hts hlocks hin hA hK hP hD hX hS ls hl hret
  have hl : lv_has ls 4 [(0, .ref m0), (1, .int x), (2, .int k)] := hl
  refine lv_iconst (v := 0) hx hb dMod_keyOf_0 (by decide) ?_
  refine lv_istore_n (lv' := [(3, .int 0), (0, .ref m0), (1, .int x), (2, .int k)]) hx hb dMod_keyOf_1 rfl hl (by decide) rfl (fun ls hl => ?_)
  have loop2 : ∀ (N : Nat) (i : Nat), ∀ (hN : kn - i < N) (hi : i ≤ kn) (hiq : i ≤ q) (H : Heap) (locs : List Loc), va_P (dC, dI) xCl [(m0, .inr (6, [.int f0, .int (nI nA), .ref b1, .ref b2, .ref b3, .ref b4, .ref b5, .ref b6, .ref b7, .int (nI kn), .ref b8, .int (nI ln), .ref b9, .ref b10, .ref b11, .ref b12, .ref b13, .ref b14, .int f1, .ref b15, .ref b16, .ref b17, .ref b18, .ref b19, .ref b20, .ref b21, .ref b22, .ref b23, .ref b24, .int (nI an), .int f2, .int f3, .int f4, .int f5])), (b5, .inl (kI, 500, .inl ka)), (b6, .inl (kI, 500, .inl kN))] H → va_D A [(m0, .inr (6, [.int f0, .int (nI nA), .ref b1, .ref b2, .ref b3, .ref b4, .ref b5, .ref b6, .ref b7, .int (nI kn), .ref b8, .int (nI ln), .ref b9, .ref b10, .ref b11, .ref b12, .ref b13, .ref b14, .int f1, .ref b15, .ref b16, .ref b17, .ref b18, .ref b19, .ref b20, .ref b21, .ref b22, .ref b23, .ref b24, .int (nI an), .int f2, .int f3, .int f4, .int f5])), (b5, .inl (kI, 500, .inl ka)), (b6, .inl (kI, 500, .inl kN))] → va_S A s.heap H locs → ∀ ls, lv_has ls 4 [(0, .ref m0), (1, .int x), (2, .int k), (3, .int (nI i))] → W p l e { frames := 0, cells := 0, slots := 0, locals := 0 } s m [.ref m0, .int x, .int k].toArray below meth c H locs 0 0 Q (F0 m 2 ls []) := by
    intro N
    induction N with
    | zero => intro i hN; exact absurd hN (Nat.not_lt_zero _)
    | succ N ih =>
      intro i hN hi hiq H locs hP hD hS ls hl
      refine lv_iload_n hx hb dMod_keyOf_2 rfl (lv_at hl 3 rfl) ?_
      refine lv_aload_n hx hb dMod_keyOf_3 rfl (lv_at hl 0 rfl) ?_
      refine va_get (D := (dC, dI)) (ci := 6) (v := .int (nI kn)) (C := RMod) (T := TMod) (N := 34) hx hb hts (fun w h => List.mem_cons_of_mem _ (layMod w h)) hown hK hP 0 rfl rfl 9 (by decide) (hts (.fieldLink RMod 107 "CallLedgerModel" "keys" "I") (List.mem_cons_of_mem _ gw653)) (fun _ h9 => h9) rfl dMod_keyOf_4 ?_
      refine lv_icmp_ge (tgt := 38) hx hb dMod_keyOf_7 (by decide) (fun c7 => ?_) (fun c7 => ?_)
      · have c7 : kn ≤ i := (nI_leI (a := kn) (b := i) (by omega) (by omega)).mp c7
        exfalso; omega
      · have c7 : ¬ (kn ≤ i) := fun z9 => c7 ((nI_leI (a := kn) (b := i) (by omega) (by omega)).mpr z9)
        refine lv_aload_n hx hb dMod_keyOf_10 rfl (lv_at hl 0 rfl) ?_
        refine va_get (D := (dC, dI)) (ci := 6) (v := .ref b5) (C := RMod) (T := TMod) (N := 34) hx hb hts (fun w h => List.mem_cons_of_mem _ (layMod w h)) hown hK hP 0 rfl rfl 6 (by decide) (hts (.fieldLink RMod 23 "CallLedgerModel" "keyAccounts" "[I") (List.mem_cons_of_mem _ gw650)) (fun _ h9 => h9) rfl dMod_keyOf_11 ?_
        refine lv_iload_n hx hb dMod_keyOf_14 rfl (lv_at hl 3 rfl) ?_
        refine x_iald (j := i) hx hb hK hP 1 0 rfl rfl rfl (by omega) (by omega) dMod_keyOf_15 ?_
        refine lv_iload_n hx hb dMod_keyOf_16 rfl (lv_at hl 1 rfl) ?_
        refine lv_icmp_ne (tgt := 32) hx hb dMod_keyOf_17 (by decide) (fun c17 => ?_) (fun c17 => ?_)
        · refine lv_iinc (v := nI (i + 1)) (lv' := [(3, .int (nI (i + 1))), (0, .ref m0), (1, .int x), (2, .int k)]) hx hb dMod_keyOf_32 hl (k := 3) rfl (nI_1 _) (by decide) rfl (fun ls hl => ?_)
          refine lv_goto (tgt := 2) hx hb dMod_keyOf_35 (by decide) ?_
          exact ih (i + 1) (by omega) (by omega) (Nat.lt_of_le_of_ne hiq (fun e9 => by subst e9; first | exact c17 hqa.1 | exact c27 hqa.2)) _ _ (hP.sub [0, 1, 2] rfl) (hD.sub [0, 1, 2] (by decide) rfl) hS _ (lv_sub hl [1, 2, 3, 0] rfl)
        · refine lv_aload_n hx hb dMod_keyOf_20 rfl (lv_at hl 0 rfl) ?_
          refine va_get (D := (dC, dI)) (ci := 6) (v := .ref b6) (C := RMod) (T := TMod) (N := 34) hx hb hts (fun w h => List.mem_cons_of_mem _ (layMod w h)) hown hK hP 0 rfl rfl 7 (by decide) (hts (.fieldLink RMod 26 "CallLedgerModel" "keyNames" "[I") (List.mem_cons_of_mem _ gw651)) (fun _ h9 => h9) rfl dMod_keyOf_21 ?_
          refine lv_iload_n hx hb dMod_keyOf_24 rfl (lv_at hl 3 rfl) ?_
          refine x_iald (j := i) hx hb hK hP 2 0 rfl rfl rfl (by omega) (by omega) dMod_keyOf_25 ?_
          refine lv_iload_n hx hb dMod_keyOf_26 rfl (lv_at hl 2 rfl) ?_
          refine lv_icmp_ne (tgt := 32) hx hb dMod_keyOf_27 (by decide) (fun c27 => ?_) (fun c27 => ?_)
          · refine lv_iinc (v := nI (i + 1)) (lv' := [(3, .int (nI (i + 1))), (0, .ref m0), (1, .int x), (2, .int k)]) hx hb dMod_keyOf_32 hl (k := 3) rfl (nI_1 _) (by decide) rfl (fun ls hl => ?_)
            refine lv_goto (tgt := 2) hx hb dMod_keyOf_35 (by decide) ?_
            exact ih (i + 1) (by omega) (by omega) (Nat.lt_of_le_of_ne hiq (fun e9 => by subst e9; first | exact c17 hqa.1 | exact c27 hqa.2)) _ _ (hP.sub [0, 1, 2] rfl) (hD.sub [0, 1, 2] (by decide) rfl) hS _ (lv_sub hl [1, 2, 3, 0] rfl)
          · have hiq2 : i = q := by
              rcases Nat.lt_or_ge i q with g | g
              · exact absurd ⟨c17, c27⟩ (hql i g)
              · omega
            subst hiq2
            refine lv_iload_n hx hb dMod_keyOf_30 rfl (lv_at hl 3 rfl) ?_
            exact hret (nI i) (()) _ _ _ (rfl) (hP.sub [0, 1, 2] rfl) (hD.sub [0, 1, 2] (by decide) rfl) hS dMod_keyOf_31
  exact loop2 _ 0 (Nat.lt_succ_self _) (Nat.zero_le _) (Nat.zero_le _) _ _ (hP.sub [0, 1, 2] rfl) (hD.sub [0, 1, 2] (by decide) rfl) hS _ (lv_sub hl [1, 2, 3, 0] rfl)

