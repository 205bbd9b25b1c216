theorem dCod_isPlace_0 : decode cCod_isPlace 0 = .ok (.iload_n 0, 1) := by decide +kernel
theorem dCod_isPlace_1 : decode cCod_isPlace 1 = .ok (.ifCond .lt 24, 3) := by decide +kernel
theorem dCod_isPlace_4 : decode cCod_isPlace 4 = .ok (.iload_n 0, 1) := by decide +kernel
theorem dCod_isPlace_5 : decode cCod_isPlace 5 = .ok (.bipush 24, 2) := by decide +kernel
theorem dCod_isPlace_7 : decode cCod_isPlace 7 = .ok (.if_icmp .ge 18, 3) := by decide +kernel
theorem dCod_isPlace_10 : decode cCod_isPlace 10 = .ok (.iload_n 1, 1) := by decide +kernel
theorem dCod_isPlace_11 : decode cCod_isPlace 11 = .ok (.ifCond .lt 14, 3) := by decide +kernel
theorem dCod_isPlace_14 : decode cCod_isPlace 14 = .ok (.iload_n 1, 1) := by decide +kernel
theorem dCod_isPlace_15 : decode cCod_isPlace 15 = .ok (.sipush 160, 3) := by decide +kernel
theorem dCod_isPlace_18 : decode cCod_isPlace 18 = .ok (.if_icmp .ge 7, 3) := by decide +kernel
theorem dCod_isPlace_21 : decode cCod_isPlace 21 = .ok (.iconst 1, 1) := by decide +kernel
theorem dCod_isPlace_22 : decode cCod_isPlace 22 = .ok (.goto 4, 3) := by decide +kernel
theorem dCod_isPlace_25 : decode cCod_isPlace 25 = .ok (.iconst 0, 1) := by decide +kernel
theorem dCod_isPlace_26 : decode cCod_isPlace 26 = .ok (.ireturn, 1) := by decide +kernel
theorem dCod_instructionOf_0 : decode cCod_instructionOf 0 = .ok (.iload_n 0, 1) := by decide +kernel
theorem dCod_instructionOf_1 : decode cCod_instructionOf 1 = .ok (.sipush 255, 3) := by decide +kernel
theorem dCod_instructionOf_4 : decode cCod_instructionOf 4 = .ok (.iand, 1) := by decide +kernel
theorem dCod_instructionOf_5 : decode cCod_instructionOf 5 = .ok (.ireturn, 1) := by decide +kernel
theorem dCod_numberOf_0 : decode cCod_numberOf 0 = .ok (.iload_n 0, 1) := by decide +kernel
theorem dCod_numberOf_1 : decode cCod_numberOf 1 = .ok (.bipush 8, 2) := by decide +kernel
theorem dCod_numberOf_3 : decode cCod_numberOf 3 = .ok (.ishr, 1) := by decide +kernel
theorem dCod_numberOf_4 : decode cCod_numberOf 4 = .ok (.ireturn, 1) := by decide +kernel
theorem dCod_isSealed_0 : decode cCod_isSealed 0 = .ok (.iload_n 1, 1) := by decide +kernel
theorem dCod_isSealed_1 : decode cCod_isSealed 1 = .ok (.iconst 0, 1) := by decide +kernel
theorem dCod_isSealed_2 : decode cCod_isSealed 2 = .ok (.invokestatic 22, 3) := by decide +kernel
theorem dCod_isSealed_5 : decode cCod_isSealed 5 = .ok (.ifCond .eq 16, 3) := by decide +kernel
theorem dCod_isSealed_8 : decode cCod_isSealed 8 = .ok (.aload_n 0, 1) := by decide +kernel
theorem dCod_isSealed_9 : decode cCod_isSealed 9 = .ok (.getfield 18, 3) := by decide +kernel
theorem dCod_isSealed_12 : decode cCod_isSealed 12 = .ok (.iload_n 1, 1) := by decide +kernel
theorem dCod_isSealed_13 : decode cCod_isSealed 13 = .ok (.baload, 1) := by decide +kernel
theorem dCod_isSealed_14 : decode cCod_isSealed 14 = .ok (.ifCond .eq 7, 3) := by decide +kernel
theorem dCod_isSealed_17 : decode cCod_isSealed 17 = .ok (.iconst 1, 1) := by decide +kernel
theorem dCod_isSealed_18 : decode cCod_isSealed 18 = .ok (.goto 4, 3) := by decide +kernel
theorem dCod_isSealed_21 : decode cCod_isSealed 21 = .ok (.iconst 0, 1) := by decide +kernel
theorem dCod_isSealed_22 : decode cCod_isSealed 22 = .ok (.ireturn, 1) := by decide +kernel
theorem dCod_wordAt_0 : decode cCod_wordAt 0 = .ok (.iload_n 1, 1) := by decide +kernel
theorem dCod_wordAt_1 : decode cCod_wordAt 1 = .ok (.iload_n 2, 1) := by decide +kernel
theorem dCod_wordAt_2 : decode cCod_wordAt 2 = .ok (.invokestatic 22, 3) := by decide +kernel
theorem dCod_wordAt_5 : decode cCod_wordAt 5 = .ok (.ifCond .eq 18, 3) := by decide +kernel
theorem dCod_wordAt_8 : decode cCod_wordAt 8 = .ok (.aload_n 0, 1) := by decide +kernel
theorem dCod_wordAt_9 : decode cCod_wordAt 9 = .ok (.getfield 9, 3) := by decide +kernel
theorem dCod_wordAt_12 : decode cCod_wordAt 12 = .ok (.iload_n 1, 1) := by decide +kernel
theorem dCod_wordAt_13 : decode cCod_wordAt 13 = .ok (.sipush 160, 3) := by decide +kernel
theorem dCod_wordAt_16 : decode cCod_wordAt 16 = .ok (.imul, 1) := by decide +kernel
theorem dCod_wordAt_17 : decode cCod_wordAt 17 = .ok (.iload_n 2, 1) := by decide +kernel
theorem dCod_wordAt_18 : decode cCod_wordAt 18 = .ok (.iadd, 1) := by decide +kernel
theorem dCod_wordAt_19 : decode cCod_wordAt 19 = .ok (.iaload, 1) := by decide +kernel
theorem dCod_wordAt_20 : decode cCod_wordAt 20 = .ok (.goto 4, 3) := by decide +kernel
theorem dCod_wordAt_23 : decode cCod_wordAt 23 = .ok (.iconst 0, 1) := by decide +kernel
theorem dCod_wordAt_24 : decode cCod_wordAt 24 = .ok (.ireturn, 1) := by decide +kernel
theorem dCod_lengthToRun_0 : decode cCod_lengthToRun 0 = .ok (.aload_n 0, 1) := by decide +kernel
theorem dCod_lengthToRun_1 : decode cCod_lengthToRun 1 = .ok (.iload_n 1, 1) := by decide +kernel
theorem dCod_lengthToRun_2 : decode cCod_lengthToRun 2 = .ok (.invokevirtual 33, 3) := by decide +kernel
theorem dCod_lengthToRun_5 : decode cCod_lengthToRun 5 = .ok (.ifCond .eq 12, 3) := by decide +kernel
theorem dCod_lengthToRun_8 : decode cCod_lengthToRun 8 = .ok (.aload_n 0, 1) := by decide +kernel
theorem dCod_lengthToRun_9 : decode cCod_lengthToRun 9 = .ok (.getfield 15, 3) := by decide +kernel
theorem dCod_lengthToRun_12 : decode cCod_lengthToRun 12 = .ok (.iload_n 1, 1) := by decide +kernel
theorem dCod_lengthToRun_13 : decode cCod_lengthToRun 13 = .ok (.iaload, 1) := by decide +kernel
theorem dCod_lengthToRun_14 : decode cCod_lengthToRun 14 = .ok (.goto 4, 3) := by decide +kernel
theorem dCod_lengthToRun_17 : decode cCod_lengthToRun 17 = .ok (.iconst 0, 1) := by decide +kernel
theorem dCod_lengthToRun_18 : decode cCod_lengthToRun 18 = .ok (.ireturn, 1) := by decide +kernel
theorem dCod_append_0 : decode cCod_append 0 = .ok (.iload_n 1, 1) := by decide +kernel
theorem dCod_append_1 : decode cCod_append 1 = .ok (.iconst 0, 1) := by decide +kernel
theorem dCod_append_2 : decode cCod_append 2 = .ok (.invokestatic 22, 3) := by decide +kernel
theorem dCod_append_5 : decode cCod_append 5 = .ok (.ifCond .eq 16, 3) := by decide +kernel
theorem dCod_append_8 : decode cCod_append 8 = .ok (.iload_n 1, 1) := by decide +kernel
theorem dCod_append_9 : decode cCod_append 9 = .ok (.aload_n 0, 1) := by decide +kernel
theorem dCod_append_10 : decode cCod_append 10 = .ok (.getfield 15, 3) := by decide +kernel
theorem dCod_append_13 : decode cCod_append 13 = .ok (.iload_n 1, 1) := by decide +kernel
theorem dCod_append_14 : decode cCod_append 14 = .ok (.iaload, 1) := by decide +kernel
theorem dCod_append_15 : decode cCod_append 15 = .ok (.invokestatic 22, 3) := by decide +kernel
theorem dCod_append_18 : decode cCod_append 18 = .ok (.ifCond .ne 5, 3) := by decide +kernel
theorem dCod_append_21 : decode cCod_append 21 = .ok (.iconst (-1), 1) := by decide +kernel
theorem dCod_append_22 : decode cCod_append 22 = .ok (.ireturn, 1) := by decide +kernel
theorem dCod_append_23 : decode cCod_append 23 = .ok (.aload_n 0, 1) := by decide +kernel
theorem dCod_append_24 : decode cCod_append 24 = .ok (.getfield 9, 3) := by decide +kernel
theorem dCod_append_27 : decode cCod_append 27 = .ok (.iload_n 1, 1) := by decide +kernel
theorem dCod_append_28 : decode cCod_append 28 = .ok (.sipush 160, 3) := by decide +kernel
theorem dCod_append_31 : decode cCod_append 31 = .ok (.imul, 1) := by decide +kernel
theorem dCod_append_32 : decode cCod_append 32 = .ok (.aload_n 0, 1) := by decide +kernel
theorem dCod_append_33 : decode cCod_append 33 = .ok (.getfield 15, 3) := by decide +kernel
theorem dCod_append_36 : decode cCod_append 36 = .ok (.iload_n 1, 1) := by decide +kernel
theorem dCod_append_37 : decode cCod_append 37 = .ok (.iaload, 1) := by decide +kernel
theorem dCod_append_38 : decode cCod_append 38 = .ok (.iadd, 1) := by decide +kernel
theorem dCod_append_39 : decode cCod_append 39 = .ok (.iload_n 2, 1) := by decide +kernel
theorem dCod_append_40 : decode cCod_append 40 = .ok (.iastore, 1) := by decide +kernel
theorem dCod_append_41 : decode cCod_append 41 = .ok (.aload_n 0, 1) := by decide +kernel
theorem dCod_append_42 : decode cCod_append 42 = .ok (.getfield 15, 3) := by decide +kernel
theorem dCod_append_45 : decode cCod_append 45 = .ok (.iload_n 1, 1) := by decide +kernel
theorem dCod_append_46 : decode cCod_append 46 = .ok (.dup2, 1) := by decide +kernel
theorem dCod_append_47 : decode cCod_append 47 = .ok (.iaload, 1) := by decide +kernel
theorem dCod_append_48 : decode cCod_append 48 = .ok (.iconst 1, 1) := by decide +kernel
theorem dCod_append_49 : decode cCod_append 49 = .ok (.iadd, 1) := by decide +kernel
theorem dCod_append_50 : decode cCod_append 50 = .ok (.iastore, 1) := by decide +kernel
theorem dCod_append_51 : decode cCod_append 51 = .ok (.aload_n 0, 1) := by decide +kernel
theorem dCod_append_52 : decode cCod_append 52 = .ok (.getfield 15, 3) := by decide +kernel
theorem dCod_append_55 : decode cCod_append 55 = .ok (.iload_n 1, 1) := by decide +kernel
theorem dCod_append_56 : decode cCod_append 56 = .ok (.iaload, 1) := by decide +kernel
theorem dCod_append_57 : decode cCod_append 57 = .ok (.ireturn, 1) := by decide +kernel
theorem dCod_isGood_0 : decode cCod_isGood 0 = .ok (.iload_n 0, 1) := by decide +kernel
theorem dCod_isGood_1 : decode cCod_isGood 1 = .ok (.invokestatic 37, 3) := by decide +kernel
theorem dCod_isGood_4 : decode cCod_isGood 4 = .ok (.istore_n 2, 1) := by decide +kernel
theorem dCod_isGood_5 : decode cCod_isGood 5 = .ok (.iload_n 0, 1) := by decide +kernel
theorem dCod_isGood_6 : decode cCod_isGood 6 = .ok (.invokestatic 41, 3) := by decide +kernel
theorem dCod_isGood_9 : decode cCod_isGood 9 = .ok (.istore_n 3, 1) := by decide +kernel
theorem dCod_isGood_10 : decode cCod_isGood 10 = .ok (.iload_n 2, 1) := by decide +kernel
theorem dCod_isGood_11 : decode cCod_isGood 11 = .ok (.lookupswitch 121 #[(3, 49), (4, 67), (16, 86), (17, 86), (27, 103)], 49) := by decide +kernel
theorem dCod_isGood_60 : decode cCod_isGood 60 = .ok (.iload_n 3, 1) := by decide +kernel
theorem dCod_isGood_61 : decode cCod_isGood 61 = .ok (.ifCond .lt 13, 3) := by decide +kernel
theorem dCod_isGood_64 : decode cCod_isGood 64 = .ok (.iload_n 3, 1) := by decide +kernel
theorem dCod_isGood_65 : decode cCod_isGood 65 = .ok (.bipush 15, 2) := by decide +kernel
theorem dCod_isGood_67 : decode cCod_isGood 67 = .ok (.if_icmp .gt 7, 3) := by decide +kernel
theorem dCod_isGood_70 : decode cCod_isGood 70 = .ok (.iconst 1, 1) := by decide +kernel
theorem dCod_isGood_71 : decode cCod_isGood 71 = .ok (.goto 74, 3) := by decide +kernel
theorem dCod_isGood_74 : decode cCod_isGood 74 = .ok (.iconst 0, 1) := by decide +kernel
theorem dCod_isGood_75 : decode cCod_isGood 75 = .ok (.goto 70, 3) := by decide +kernel
theorem dCod_isGood_78 : decode cCod_isGood 78 = .ok (.iload_n 3, 1) := by decide +kernel
theorem dCod_isGood_79 : decode cCod_isGood 79 = .ok (.iconst 1, 1) := by decide +kernel
theorem dCod_isGood_80 : decode cCod_isGood 80 = .ok (.if_icmp .lt 13, 3) := by decide +kernel
theorem dCod_isGood_83 : decode cCod_isGood 83 = .ok (.iload_n 3, 1) := by decide +kernel
theorem dCod_isGood_84 : decode cCod_isGood 84 = .ok (.bipush 15, 2) := by decide +kernel
theorem dCod_isGood_86 : decode cCod_isGood 86 = .ok (.if_icmp .gt 7, 3) := by decide +kernel
theorem dCod_isGood_89 : decode cCod_isGood 89 = .ok (.iconst 1, 1) := by decide +kernel
theorem dCod_isGood_90 : decode cCod_isGood 90 = .ok (.goto 55, 3) := by decide +kernel
theorem dCod_isGood_93 : decode cCod_isGood 93 = .ok (.iconst 0, 1) := by decide +kernel
theorem dCod_isGood_94 : decode cCod_isGood 94 = .ok (.goto 51, 3) := by decide +kernel
theorem dCod_isGood_97 : decode cCod_isGood 97 = .ok (.iload_n 3, 1) := by decide +kernel
theorem dCod_isGood_98 : decode cCod_isGood 98 = .ok (.ifCond .lt 12, 3) := by decide +kernel
theorem dCod_isGood_101 : decode cCod_isGood 101 = .ok (.iload_n 3, 1) := by decide +kernel
theorem dCod_isGood_102 : decode cCod_isGood 102 = .ok (.iload_n 1, 1) := by decide +kernel
theorem dCod_isGood_103 : decode cCod_isGood 103 = .ok (.if_icmp .gt 7, 3) := by decide +kernel
theorem dCod_isGood_106 : decode cCod_isGood 106 = .ok (.iconst 1, 1) := by decide +kernel
theorem dCod_isGood_107 : decode cCod_isGood 107 = .ok (.goto 38, 3) := by decide +kernel
theorem dCod_isGood_110 : decode cCod_isGood 110 = .ok (.iconst 0, 1) := by decide +kernel
theorem dCod_isGood_111 : decode cCod_isGood 111 = .ok (.goto 34, 3) := by decide +kernel
theorem dCod_isGood_114 : decode cCod_isGood 114 = .ok (.iload_n 3, 1) := by decide +kernel
theorem dCod_isGood_115 : decode cCod_isGood 115 = .ok (.ifCond .lt 13, 3) := by decide +kernel
theorem dCod_isGood_118 : decode cCod_isGood 118 = .ok (.iload_n 3, 1) := by decide +kernel
theorem dCod_isGood_119 : decode cCod_isGood 119 = .ok (.bipush 8, 2) := by decide +kernel
theorem dCod_isGood_121 : decode cCod_isGood 121 = .ok (.if_icmp .gt 7, 3) := by decide +kernel
theorem dCod_isGood_124 : decode cCod_isGood 124 = .ok (.iconst 1, 1) := by decide +kernel
theorem dCod_isGood_125 : decode cCod_isGood 125 = .ok (.goto 20, 3) := by decide +kernel
theorem dCod_isGood_128 : decode cCod_isGood 128 = .ok (.iconst 0, 1) := by decide +kernel
theorem dCod_isGood_129 : decode cCod_isGood 129 = .ok (.goto 16, 3) := by decide +kernel
theorem dCod_isGood_132 : decode cCod_isGood 132 = .ok (.iload_n 2, 1) := by decide +kernel
theorem dCod_isGood_133 : decode cCod_isGood 133 = .ok (.getstatic 44, 3) := by decide +kernel
theorem dCod_isGood_136 : decode cCod_isGood 136 = .ok (.arraylength, 1) := by decide +kernel
theorem dCod_isGood_137 : decode cCod_isGood 137 = .ok (.if_icmp .ge 7, 3) := by decide +kernel
theorem dCod_isGood_140 : decode cCod_isGood 140 = .ok (.iconst 1, 1) := by decide +kernel
theorem dCod_isGood_141 : decode cCod_isGood 141 = .ok (.goto 4, 3) := by decide +kernel
theorem dCod_isGood_144 : decode cCod_isGood 144 = .ok (.iconst 0, 1) := by decide +kernel
theorem dCod_isGood_145 : decode cCod_isGood 145 = .ok (.ireturn, 1) := by decide +kernel
theorem dCod_close_0 : decode cCod_close 0 = .ok (.iload_n 1, 1) := by decide +kernel
theorem dCod_close_1 : decode cCod_close 1 = .ok (.iconst 0, 1) := by decide +kernel
theorem dCod_close_2 : decode cCod_close 2 = .ok (.invokestatic 22, 3) := by decide +kernel
theorem dCod_close_5 : decode cCod_close 5 = .ok (.ifCond .ne 5, 3) := by decide +kernel
theorem dCod_close_8 : decode cCod_close 8 = .ok (.iconst (-1), 1) := by decide +kernel
theorem dCod_close_9 : decode cCod_close 9 = .ok (.ireturn, 1) := by decide +kernel
theorem dCod_close_10 : decode cCod_close 10 = .ok (.aload_n 0, 1) := by decide +kernel
theorem dCod_close_11 : decode cCod_close 11 = .ok (.getfield 15, 3) := by decide +kernel
theorem dCod_close_14 : decode cCod_close 14 = .ok (.iload_n 1, 1) := by decide +kernel
theorem dCod_close_15 : decode cCod_close 15 = .ok (.iaload, 1) := by decide +kernel
theorem dCod_close_16 : decode cCod_close 16 = .ok (.istore_n 2, 1) := by decide +kernel
theorem dCod_close_17 : decode cCod_close 17 = .ok (.iconst 0, 1) := by decide +kernel
theorem dCod_close_18 : decode cCod_close 18 = .ok (.istore_n 3, 1) := by decide +kernel
theorem dCod_close_19 : decode cCod_close 19 = .ok (.iload_n 3, 1) := by decide +kernel
theorem dCod_close_20 : decode cCod_close 20 = .ok (.iload_n 2, 1) := by decide +kernel
theorem dCod_close_21 : decode cCod_close 21 = .ok (.if_icmp .ge 31, 3) := by decide +kernel
theorem dCod_close_24 : decode cCod_close 24 = .ok (.aload_n 0, 1) := by decide +kernel
theorem dCod_close_25 : decode cCod_close 25 = .ok (.iload_n 1, 1) := by decide +kernel
theorem dCod_close_26 : decode cCod_close 26 = .ok (.iload_n 3, 1) := by decide +kernel
theorem dCod_close_27 : decode cCod_close 27 = .ok (.invokevirtual 26, 3) := by decide +kernel
theorem dCod_close_30 : decode cCod_close 30 = .ok (.iload_n 2, 1) := by decide +kernel
theorem dCod_close_31 : decode cCod_close 31 = .ok (.invokestatic 30, 3) := by decide +kernel
theorem dCod_close_34 : decode cCod_close 34 = .ok (.ifCond .ne 12, 3) := by decide +kernel
theorem dCod_close_37 : decode cCod_close 37 = .ok (.aload_n 0, 1) := by decide +kernel
theorem dCod_close_38 : decode cCod_close 38 = .ok (.getfield 15, 3) := by decide +kernel
theorem dCod_close_41 : decode cCod_close 41 = .ok (.iload_n 1, 1) := by decide +kernel
theorem dCod_close_42 : decode cCod_close 42 = .ok (.iconst 0, 1) := by decide +kernel
theorem dCod_close_43 : decode cCod_close 43 = .ok (.iastore, 1) := by decide +kernel
theorem dCod_close_44 : decode cCod_close 44 = .ok (.iload_n 3, 1) := by decide +kernel
theorem dCod_close_45 : decode cCod_close 45 = .ok (.ireturn, 1) := by decide +kernel
theorem dCod_close_46 : decode cCod_close 46 = .ok (.iinc 3 1, 3) := by decide +kernel
theorem dCod_close_49 : decode cCod_close 49 = .ok (.goto (-30), 3) := by decide +kernel
theorem dCod_close_52 : decode cCod_close 52 = .ok (.aload_n 0, 1) := by decide +kernel
theorem dCod_close_53 : decode cCod_close 53 = .ok (.getfield 18, 3) := by decide +kernel
theorem dCod_close_56 : decode cCod_close 56 = .ok (.iload_n 1, 1) := by decide +kernel
theorem dCod_close_57 : decode cCod_close 57 = .ok (.iconst 1, 1) := by decide +kernel
theorem dCod_close_58 : decode cCod_close 58 = .ok (.bastore, 1) := by decide +kernel
theorem dCod_close_59 : decode cCod_close 59 = .ok (.iconst (-1), 1) := by decide +kernel
theorem dCod_close_60 : decode cCod_close 60 = .ok (.ireturn, 1) := by decide +kernel
theorem gw37 : .initialized RCod ∈ xG := List.mem_filter.mpr ⟨List.mem_of_getElem? (i := 37) (by decide +kernel), by decide +kernel⟩
theorem gw65 : .fieldLink RCod 9 "CallLedger$Codes" "words" "[I" ∈ xG := List.mem_filter.mpr ⟨List.mem_of_getElem? (i := 65) (by decide +kernel), by decide +kernel⟩
theorem gw66 : .fieldLink RCod 15 "CallLedger$Codes" "lengths" "[I" ∈ xG := List.mem_filter.mpr ⟨List.mem_of_getElem? (i := 66) (by decide +kernel), by decide +kernel⟩
theorem gw67 : .fieldLink RCod 18 "CallLedger$Codes" "sealedOnes" "[Z" ∈ xG := List.mem_filter.mpr ⟨List.mem_of_getElem? (i := 67) (by decide +kernel), by decide +kernel⟩
theorem gw382 : .instanceMethod yCod_isSealed ∈ xG := List.mem_filter.mpr ⟨List.mem_of_getElem? (i := 382) (by decide +kernel), by decide +kernel⟩
theorem gw383 : .selects RCod yCod_isSealed yCod_isSealed ∈ xG := List.mem_filter.mpr ⟨List.mem_of_getElem? (i := 383) (by decide +kernel), by decide +kernel⟩
theorem gw384 : .code yCod_isSealed cCod_isSealed 2 (some .boolean) ∈ xG := List.mem_filter.mpr ⟨List.mem_of_getElem? (i := 384) (by decide +kernel), by decide +kernel⟩
theorem gw385 : .methodLink RCod 22 yCod_isPlace ∈ xG := List.mem_filter.mpr ⟨List.mem_of_getElem? (i := 385) (by decide +kernel), by decide +kernel⟩
theorem gw386 : .static yCod_isPlace ∈ xG := List.mem_filter.mpr ⟨List.mem_of_getElem? (i := 386) (by decide +kernel), by decide +kernel⟩
theorem gw387 : .code yCod_isPlace cCod_isPlace 2 (some .boolean) ∈ xG := List.mem_filter.mpr ⟨List.mem_of_getElem? (i := 387) (by decide +kernel), by decide +kernel⟩
theorem gw419 : .methodLink RCod 26 yCod_wordAt ∈ xG := List.mem_filter.mpr ⟨List.mem_of_getElem? (i := 419) (by decide +kernel), by decide +kernel⟩
theorem gw420 : .instanceMethod yCod_wordAt ∈ xG := List.mem_filter.mpr ⟨List.mem_of_getElem? (i := 420) (by decide +kernel), by decide +kernel⟩
theorem gw421 : .selects RCod yCod_wordAt yCod_wordAt ∈ xG := List.mem_filter.mpr ⟨List.mem_of_getElem? (i := 421) (by decide +kernel), by decide +kernel⟩
theorem gw422 : .code yCod_wordAt cCod_wordAt 3 (some .int) ∈ xG := List.mem_filter.mpr ⟨List.mem_of_getElem? (i := 422) (by decide +kernel), by decide +kernel⟩
theorem gw423 : .methodLink RCod 30 yCod_isGood ∈ xG := List.mem_filter.mpr ⟨List.mem_of_getElem? (i := 423) (by decide +kernel), by decide +kernel⟩
theorem gw424 : .static yCod_isGood ∈ xG := List.mem_filter.mpr ⟨List.mem_of_getElem? (i := 424) (by decide +kernel), by decide +kernel⟩
theorem gw425 : .code yCod_isGood cCod_isGood 4 (some .boolean) ∈ xG := List.mem_filter.mpr ⟨List.mem_of_getElem? (i := 425) (by decide +kernel), by decide +kernel⟩
theorem gw426 : .methodLink RCod 37 yCod_instructionOf ∈ xG := List.mem_filter.mpr ⟨List.mem_of_getElem? (i := 426) (by decide +kernel), by decide +kernel⟩
theorem gw427 : .static yCod_instructionOf ∈ xG := List.mem_filter.mpr ⟨List.mem_of_getElem? (i := 427) (by decide +kernel), by decide +kernel⟩
theorem gw428 : .code yCod_instructionOf cCod_instructionOf 1 (some .int) ∈ xG := List.mem_filter.mpr ⟨List.mem_of_getElem? (i := 428) (by decide +kernel), by decide +kernel⟩
theorem gw429 : .methodLink RCod 41 yCod_numberOf ∈ xG := List.mem_filter.mpr ⟨List.mem_of_getElem? (i := 429) (by decide +kernel), by decide +kernel⟩
theorem gw430 : .static yCod_numberOf ∈ xG := List.mem_filter.mpr ⟨List.mem_of_getElem? (i := 430) (by decide +kernel), by decide +kernel⟩
theorem gw431 : .code yCod_numberOf cCod_numberOf 1 (some .int) ∈ xG := List.mem_filter.mpr ⟨List.mem_of_getElem? (i := 431) (by decide +kernel), by decide +kernel⟩
theorem gw492 : .methodLink RCod 33 yCod_isSealed ∈ xG := List.mem_filter.mpr ⟨List.mem_of_getElem? (i := 492) (by decide +kernel), by decide +kernel⟩
theorem x_updL (f : Nat → Nat) (k v : Nat) : upd (fun j => nI (f j)) k (nI v) = fun j => nI (va_up f k v j) := by
  funext j
  by_cases h : j = k
  · subst h; simp [upd, va_up]
  · simp [upd, va_up, h]
theorem x_updB (f : Nat → Bool) (k : Nat) (v : Bool) : upd (fun j => x_b (f j)) k (x_b v) = fun j => x_b (va_up f k v j) := by
  funext j
  by_cases h : j = k
  · subst h; simp [upd, va_up]
  · simp [upd, va_up, h]
/-- a word's instruction and number -/
def wI (w : Int32) : Int32 := w &&& 255
def wN (w : Int32) : Int32 := w >>> ((8 : Int32) &&& 31)
/-- what sealing asks of a word -/
def wGood (w : Int32) (len : Nat) : Bool :=
  if wI w = 3 then !(decide (wN w < 0)) && !(decide (15 < wN w))
  else if wI w = 4 then !(decide (wN w < 1)) && !(decide (15 < wN w))
  else if wI w = 16 ∨ wI w = 17 then !(decide (wN w < 0)) && !(decide (nI len < wN w))
  else if wI w = 27 then !(decide (wN w < 0)) && !(decide (8 < wN w))
  else !(decide (30 ≤ wI w))
/-- the first word that isn't good, from k on, n words -/
def wBad (cw : Nat → Int32) (a len : Nat) : Nat → Nat → Option Nat
  | _, 0 => none
  | k, n + 1 => if wGood (cw (a * 160 + k)) len = true then wBad cw a len (k + 1) n else some k
theorem wBad_good {cw : Nat → Int32} {a len k : Nat} (h : k < len) (hg : wGood (cw (a * 160 + k)) len = true) : wBad cw a len k (len - k) = wBad cw a len (k + 1) (len - (k + 1)) := by
  rw [show len - k = (len - (k + 1)) + 1 from by omega]
  exact if_pos hg
theorem wBad_bad {cw : Nat → Int32} {a len k : Nat} (h : k < len) (hg : wGood (cw (a * 160 + k)) len = false) : wBad cw a len k (len - k) = some k := by
  rw [show len - k = (len - (k + 1)) + 1 from by omega]
  exact if_neg (by rw [hg]; decide)
theorem x_160 {a k : Nat} : nI a * 160 + nI k = nI (a * 160 + k) := by
  show nI a * nI 160 + nI k = _
  rw [pk_mul, nI_add]
set_option maxHeartbeats 4000000 in
set_option maxRecDepth 100000 in
theorem kCod_isPlace (l : Launch) (dC : Nat → ClassId) (dI : Nat → Nat → Nat) (kI kJ kZ : ClassId) (a : Nat) (k : Nat) (ha : a < 24) (hk : k < 2 ^ 30) :
    XM stX l yCod_isPlace wCod_isPlace { frames := 0, cells := 0, slots := 0, locals := 0 } (dC, dI) xCl (x_T kI kJ kZ) [] [.int (nI a), .int (nI k)] 0 0 x_eI (fun (r : Int32) (u : Unit) => r = if k < 160 then 1 else 0) (fun (u : Unit) => []) := by
  refine XM.ofZ (cc := cCod_isPlace) (maxL := 2) (by decide) rfl (Nat.le_of_ble_eq_true rfl) ?_
  intro p e s m below meth c A Q hx hb hr hml hown hts hlocks hin hA hK hP hD hX hS ls hl hret
  have hl : lv_has ls 2 [(0, .int (nI a)), (1, .int (nI k))] := hl
  refine lv_iload_n hx hb dCod_isPlace_0 rfl (lv_at hl 0 rfl) ?_
  refine lv_if_lt (tgt := 25) hx hb dCod_isPlace_1 (by decide) (fun c1 => ?_) (fun c1 => ?_)
  · have c1 : a < 0 := (nI_ltI (a := a) (b := 0) (by omega) (by omega)).mp c1
    exfalso; omega
  · have c1 : ¬ (a < 0) := fun z9 => c1 ((nI_ltI (a := a) (b := 0) (by omega) (by omega)).mpr z9)
    refine lv_iload_n hx hb dCod_isPlace_4 rfl (lv_at hl 0 rfl) ?_
    refine lv_bipush (v := 24) hx hb dCod_isPlace_5 (by decide) ?_
    refine lv_icmp_ge (tgt := 25) hx hb dCod_isPlace_7 (by decide) (fun c7 => ?_) (fun c7 => ?_)
    · have c7 : 24 ≤ a := (nI_leI (a := 24) (b := a) (by omega) (by omega)).mp c7
      exfalso; omega
    · have c7 : ¬ (24 ≤ a) := fun z9 => c7 ((nI_leI (a := 24) (b := a) (by omega) (by omega)).mpr z9)
      refine lv_iload_n hx hb dCod_isPlace_10 rfl (lv_at hl 1 rfl) ?_
      refine lv_if_lt (tgt := 25) hx hb dCod_isPlace_11 (by decide) (fun c11 => ?_) (fun c11 => ?_)
      · have c11 : k < 0 := (nI_ltI (a := k) (b := 0) (by omega) (by omega)).mp c11
        exfalso; omega
      · have c11 : ¬ (k < 0) := fun z9 => c11 ((nI_ltI (a := k) (b := 0) (by omega) (by omega)).mpr z9)
        refine lv_iload_n hx hb dCod_isPlace_14 rfl (lv_at hl 1 rfl) ?_
        refine lv_sipush (v := 160) hx hb dCod_isPlace_15 (by decide) ?_
        refine lv_icmp_ge (tgt := 25) hx hb dCod_isPlace_18 (by decide) (fun c18 => ?_) (fun c18 => ?_)
        · have c18 : 160 ≤ k := (nI_leI (a := 160) (b := k) (by omega) (by omega)).mp c18
          refine lv_iconst (v := 0) hx hb dCod_isPlace_25 (by decide) ?_
          exact hret 0 (())  (rfl) _ _ _ (by first | rfl | (split <;> first | rfl | omega)) (hP.sub [] rfl) (hD.sub [] (by decide) rfl) hS dCod_isPlace_26
        · have c18 : ¬ (160 ≤ k) := fun z9 => c18 ((nI_leI (a := 160) (b := k) (by omega) (by omega)).mpr z9)
          refine lv_iconst (v := 1) hx hb dCod_isPlace_21 (by decide) ?_
          refine lv_goto (tgt := 26) hx hb dCod_isPlace_22 (by decide) ?_
          exact hret 1 (())  (rfl) _ _ _ (by first | rfl | (split <;> first | rfl | omega)) (hP.sub [] rfl) (hD.sub [] (by decide) rfl) hS dCod_isPlace_26

set_option maxHeartbeats 4000000 in
set_option maxRecDepth 100000 in
theorem kCod_instructionOf (l : Launch) (dC : Nat → ClassId) (dI : Nat → Nat → Nat) (kI kJ kZ : ClassId) (w : Int32)  :
    XM stX l yCod_instructionOf wCod_instructionOf { frames := 0, cells := 0, slots := 0, locals := 0 } (dC, dI) xCl (x_T kI kJ kZ) [] [.int w] 0 0 x_eI (fun (r : Int32) (u : Unit) => r = wI w) (fun (u : Unit) => []) := by
  refine XM.ofI (cc := cCod_instructionOf) (maxL := 1) (by decide) rfl (Nat.le_of_ble_eq_true rfl) ?_
  intro p e s m below meth c A Q hx hb hr hml hown hts hlocks hin hA hK hP hD hX hS ls hl hret
  have hl : lv_has ls 1 [(0, .int w)] := hl
  refine lv_iload_n hx hb dCod_instructionOf_0 rfl (lv_at hl 0 rfl) ?_
  refine lv_sipush (v := 255) hx hb dCod_instructionOf_1 (by decide) ?_
  refine lv_iand hx hb dCod_instructionOf_4 ?_
  exact hret (w &&& 255) (()) _ _ _ (rfl) (hP.sub [] rfl) (hD.sub [] (by decide) rfl) hS dCod_instructionOf_5

set_option maxHeartbeats 4000000 in
set_option maxRecDepth 100000 in
theorem kCod_numberOf (l : Launch) (dC : Nat → ClassId) (dI : Nat → Nat → Nat) (kI kJ kZ : ClassId) (w : Int32)  :
    XM stX l yCod_numberOf wCod_numberOf { frames := 0, cells := 0, slots := 0, locals := 0 } (dC, dI) xCl (x_T kI kJ kZ) [] [.int w] 0 0 x_eI (fun (r : Int32) (u : Unit) => r = wN w) (fun (u : Unit) => []) := by
  refine XM.ofI (cc := cCod_numberOf) (maxL := 1) (by decide) rfl (Nat.le_of_ble_eq_true rfl) ?_
  intro p e s m below meth c A Q hx hb hr hml hown hts hlocks hin hA hK hP hD hX hS ls hl hret
  have hl : lv_has ls 1 [(0, .int w)] := hl
  refine lv_iload_n hx hb dCod_numberOf_0 rfl (lv_at hl 0 rfl) ?_
  refine lv_bipush (v := 8) hx hb dCod_numberOf_1 (by decide) ?_
  refine lv_ishr hx hb dCod_numberOf_3 ?_
  exact hret (w >>> (8 &&& 31)) (()) _ _ _ (rfl) (hP.sub [] rfl) (hD.sub [] (by decide) rfl) hS dCod_numberOf_4

set_option maxHeartbeats 4000000 in
set_option maxRecDepth 100000 in
theorem kCod_isSealed (l : Launch) (dC : Nat → ClassId) (dI : Nat → Nat → Nat) (kI kJ kZ : ClassId) (h0 : Nat) (h1 : Nat) (h2 : Nat) (h3 : Nat) (cw : Nat → Int32) (ln : Nat → Nat) (z : Nat → Bool) (a : Nat) (ha : a < 24) :
    XM stX l yCod_isSealed wCod_isSealed { frames := 1, cells := 0, slots := 0, locals := 21 } (dC, dI) xCl (x_T kI kJ kZ) [(h0, .inr (1, [.ref h1, .ref h2, .ref h3])), (h1, .inl (kI, 3840, .inl cw)), (h2, .inl (kI, 24, .inl (fun j => nI (ln j)))), (h3, .inl (kZ, 24, .inl (fun j => x_b (z j))))] [.ref h0, .int (nI a)] 0 0 x_eI (fun (r : Int32) (u : Unit) => r = x_b (z a)) (fun (u : Unit) => [(h0, .inr (1, [.ref h1, .ref h2, .ref h3])), (h1, .inl (kI, 3840, .inl cw)), (h2, .inl (kI, 24, .inl (fun j => nI (ln j)))), (h3, .inl (kZ, 24, .inl (fun j => x_b (z j))))]) := by
  refine XM.ofZ (cc := cCod_isSealed) (maxL := 2) (by decide) rfl (Nat.le_of_ble_eq_true rfl) ?_
  intro p e s m below meth c A Q hx hb hr hml hown hts hlocks hin hA hK hP hD hX hS ls hl hret
  have hl : lv_has ls 2 [(0, .ref h0), (1, .int (nI a))] := hl
  refine lv_iload_n hx hb dCod_isSealed_0 rfl (lv_at hl 1 rfl) ?_
  refine lv_iconst (v := 0) hx hb dCod_isSealed_1 (by decide) ?_
  refine XM.callSi (As := [.int (nI a), .int 0]) (rest := []) (wr := [(h0, .inr (1, [.ref h1, .ref h2, .ref h3])), (h1, .inl (kI, 3840, .inl cw)), (h2, .inl (kI, 24, .inl (fun j => nI (ln j)))), (h3, .inl (kZ, 24, .inl (fun j => x_b (z j))))]) stX_ok ⟨hx, hb, hml, hown, hts⟩ (kCod_isPlace l dC dI kI kJ kZ a 0 (by first | assumption | omega) (by first | assumption | omega)) (va_cwS 2 hts (x_gS gw385 gw386 gw37 gw387) rfl rfl rfl (by decide +kernel) ⟨Nat.le_of_ble_eq_true rfl, Nat.le_of_ble_eq_true rfl⟩) hK hP hD hS hA hX [] [0, 1, 2, 3] rfl rfl (by decide) (by decide) (by decide) rfl rfl hl.1 (Nat.le_of_ble_eq_true rfl) dCod_isSealed_2 ⟨Nat.le_of_ble_eq_true rfl, Nat.le_of_ble_eq_true rfl⟩ (fun r_2 u_1 H locs hw hP hD hS => ?_)
  obtain rfl := hw
  have hP : va_P (dC, dI) xCl [(h0, .inr (1, [.ref h1, .ref h2, .ref h3])), (h1, .inl (kI, 3840, .inl cw)), (h2, .inl (kI, 24, .inl (fun j => nI (ln j)))), (h3, .inl (kZ, 24, .inl (fun j => x_b (z j))))] H := hP
  have hD : va_D A [(h0, .inr (1, [.ref h1, .ref h2, .ref h3])), (h1, .inl (kI, 3840, .inl cw)), (h2, .inl (kI, 24, .inl (fun j => nI (ln j)))), (h3, .inl (kZ, 24, .inl (fun j => x_b (z j))))] := hD
  refine lv_if_eq (tgt := 21) hx hb dCod_isSealed_5 (by decide) (fun c5 => ?_) (fun c5 => ?_)
  · have c5 : ¬ (0 < 160) := x_i10.mp c5
    exfalso; exact absurd c5 (by decide)
  · have c5 : (0 < 160) := Classical.not_not.mp (fun z9 => c5 (x_i10.mpr z9))
    refine lv_aload_n hx hb dCod_isSealed_8 rfl (lv_at hl 0 rfl) ?_
    refine va_get (D := (dC, dI)) (ci := 1) (v := .ref h3) (C := RCod) (T := TCod) (N := 3) hx hb hts (fun w h => List.mem_cons_of_mem _ (layCod w h)) hown hK hP 0 rfl rfl 2 (by decide) (hts (.fieldLink RCod 18 "CallLedger$Codes" "sealedOnes" "[Z") (List.mem_cons_of_mem _ gw67)) (fun _ h9 => h9) rfl dCod_isSealed_9 ?_
    refine lv_iload_n hx hb dCod_isSealed_12 rfl (lv_at hl 1 rfl) ?_
    refine x_zald (j := a) hx hb hK hP 3 2 rfl rfl rfl (by omega) (by omega) dCod_isSealed_13 ?_
    refine lv_if_eq (tgt := 21) hx hb dCod_isSealed_14 (by decide) (fun c14 => ?_) (fun c14 => ?_)
    · have c14 : (z a) = false := x_b0.mp c14
      refine lv_iconst (v := 0) hx hb dCod_isSealed_21 (by decide) ?_
      exact hret 0 (())  (rfl) _ _ _ (by rw [c14]; rfl) (hP.sub [0, 1, 2, 3] rfl) (hD.sub [0, 1, 2, 3] (by decide) rfl) hS dCod_isSealed_22
    · have c14 : (z a) = true := Bool.of_not_eq_false (fun z9 => c14 (x_b0.mpr z9))
      refine lv_iconst (v := 1) hx hb dCod_isSealed_17 (by decide) ?_
      refine lv_goto (tgt := 22) hx hb dCod_isSealed_18 (by decide) ?_
      exact hret 1 (())  (rfl) _ _ _ (by rw [c14]; rfl) (hP.sub [0, 1, 2, 3] rfl) (hD.sub [0, 1, 2, 3] (by decide) rfl) hS dCod_isSealed_22

set_option maxHeartbeats 4000000 in
set_option maxRecDepth 100000 in
theorem kCod_wordAt (l : Launch) (dC : Nat → ClassId) (dI : Nat → Nat → Nat) (kI kJ kZ : ClassId) (h0 : Nat) (h1 : Nat) (h2 : Nat) (h3 : Nat) (cw : Nat → Int32) (ln : Nat → Nat) (z : Nat → Bool) (a : Nat) (k : Nat) (ha : a < 24) (hk : k < 160) :
    XM stX l yCod_wordAt wCod_wordAt { frames := 1, cells := 0, slots := 0, locals := 21 } (dC, dI) xCl (x_T kI kJ kZ) [(h0, .inr (1, [.ref h1, .ref h2, .ref h3])), (h1, .inl (kI, 3840, .inl cw)), (h2, .inl (kI, 24, .inl (fun j => nI (ln j)))), (h3, .inl (kZ, 24, .inl (fun j => x_b (z j))))] [.ref h0, .int (nI a), .int (nI k)] 0 0 x_eI (fun (r : Int32) (u : Unit) => r = cw (a * 160 + k)) (fun (u : Unit) => [(h0, .inr (1, [.ref h1, .ref h2, .ref h3])), (h1, .inl (kI, 3840, .inl cw)), (h2, .inl (kI, 24, .inl (fun j => nI (ln j)))), (h3, .inl (kZ, 24, .inl (fun j => x_b (z j))))]) := by
  refine XM.ofI (cc := cCod_wordAt) (maxL := 3) (by decide) rfl (Nat.le_of_ble_eq_true rfl) ?_
  intro p e s m below meth c A Q hx hb hr hml hown hts hlocks hin hA hK hP hD hX hS ls hl hret
  have hl : lv_has ls 3 [(0, .ref h0), (1, .int (nI a)), (2, .int (nI k))] := hl
  refine lv_iload_n hx hb dCod_wordAt_0 rfl (lv_at hl 1 rfl) ?_
  refine lv_iload_n hx hb dCod_wordAt_1 rfl (lv_at hl 2 rfl) ?_
  refine XM.callSi (As := [.int (nI a), .int (nI k)]) (rest := []) (wr := [(h0, .inr (1, [.ref h1, .ref h2, .ref h3])), (h1, .inl (kI, 3840, .inl cw)), (h2, .inl (kI, 24, .inl (fun j => nI (ln j)))), (h3, .inl (kZ, 24, .inl (fun j => x_b (z j))))]) stX_ok ⟨hx, hb, hml, hown, hts⟩ (kCod_isPlace l dC dI kI kJ kZ a k (by first | assumption | omega) (by first | assumption | omega)) (va_cwS 2 hts (x_gS gw385 gw386 gw37 gw387) rfl rfl rfl (by decide +kernel) ⟨Nat.le_of_ble_eq_true rfl, Nat.le_of_ble_eq_true rfl⟩) hK hP hD hS hA hX [] [0, 1, 2, 3] rfl rfl (by decide) (by decide) (by decide) rfl rfl hl.1 (Nat.le_of_ble_eq_true rfl) dCod_wordAt_2 ⟨Nat.le_of_ble_eq_true rfl, Nat.le_of_ble_eq_true rfl⟩ (fun r_2 u_1 H locs hw hP hD hS => ?_)
  obtain rfl := hw
  have hP : va_P (dC, dI) xCl [(h0, .inr (1, [.ref h1, .ref h2, .ref h3])), (h1, .inl (kI, 3840, .inl cw)), (h2, .inl (kI, 24, .inl (fun j => nI (ln j)))), (h3, .inl (kZ, 24, .inl (fun j => x_b (z j))))] H := hP
  have hD : va_D A [(h0, .inr (1, [.ref h1, .ref h2, .ref h3])), (h1, .inl (kI, 3840, .inl cw)), (h2, .inl (kI, 24, .inl (fun j => nI (ln j)))), (h3, .inl (kZ, 24, .inl (fun j => x_b (z j))))] := hD
  refine lv_if_eq (tgt := 23) hx hb dCod_wordAt_5 (by decide) (fun c5 => ?_) (fun c5 => ?_)
  · have c5 : ¬ (k < 160) := x_i10.mp c5
    exfalso; omega
  · have c5 : (k < 160) := Classical.not_not.mp (fun z9 => c5 (x_i10.mpr z9))
    refine lv_aload_n hx hb dCod_wordAt_8 rfl (lv_at hl 0 rfl) ?_
    refine va_get (D := (dC, dI)) (ci := 1) (v := .ref h1) (C := RCod) (T := TCod) (N := 3) hx hb hts (fun w h => List.mem_cons_of_mem _ (layCod w h)) hown hK hP 0 rfl rfl 0 (by decide) (hts (.fieldLink RCod 9 "CallLedger$Codes" "words" "[I") (List.mem_cons_of_mem _ gw65)) (fun _ h9 => h9) rfl dCod_wordAt_9 ?_
    refine lv_iload_n hx hb dCod_wordAt_12 rfl (lv_at hl 1 rfl) ?_
    refine lv_sipush (v := 160) hx hb dCod_wordAt_13 (by decide) ?_
    refine lv_imul hx hb dCod_wordAt_16 ?_
    refine lv_iload_n hx hb dCod_wordAt_17 rfl (lv_at hl 2 rfl) ?_
    refine lv_iadd hx hb dCod_wordAt_18 ?_
    refine x_topi (y := nI (a * 160 + k)) (x_160) ?_
    refine x_iald (j := a * 160 + k) hx hb hK hP 1 0 rfl rfl rfl (by omega) (by omega) dCod_wordAt_19 ?_
    refine lv_goto (tgt := 24) hx hb dCod_wordAt_20 (by decide) ?_
    exact hret (cw (a * 160 + k)) (()) _ _ _ (rfl) (hP.sub [0, 1, 2, 3] rfl) (hD.sub [0, 1, 2, 3] (by decide) rfl) hS dCod_wordAt_24

set_option maxHeartbeats 4000000 in
set_option maxRecDepth 100000 in
theorem kCod_lengthToRun (l : Launch) (dC : Nat → ClassId) (dI : Nat → Nat → Nat) (kI kJ kZ : ClassId) (h0 : Nat) (h1 : Nat) (h2 : Nat) (h3 : Nat) (cw : Nat → Int32) (ln : Nat → Nat) (z : Nat → Bool) (a : Nat) (ha : a < 24) :
    XM stX l yCod_lengthToRun wCod_lengthToRun { frames := 2, cells := 0, slots := 0, locals := 42 } (dC, dI) xCl (x_T kI kJ kZ) [(h0, .inr (1, [.ref h1, .ref h2, .ref h3])), (h1, .inl (kI, 3840, .inl cw)), (h2, .inl (kI, 24, .inl (fun j => nI (ln j)))), (h3, .inl (kZ, 24, .inl (fun j => x_b (z j))))] [.ref h0, .int (nI a)] 0 0 x_eI (fun (r : Int32) (u : Unit) => r = nI (if z a = true then ln a else 0)) (fun (u : Unit) => [(h0, .inr (1, [.ref h1, .ref h2, .ref h3])), (h1, .inl (kI, 3840, .inl cw)), (h2, .inl (kI, 24, .inl (fun j => nI (ln j)))), (h3, .inl (kZ, 24, .inl (fun j => x_b (z j))))]) := by
  refine XM.ofI (cc := cCod_lengthToRun) (maxL := 2) (by decide) rfl (Nat.le_of_ble_eq_true rfl) ?_
  intro p e s m below meth c A Q hx hb hr hml hown hts hlocks hin hA hK hP hD hX hS ls hl hret
  have hl : lv_has ls 2 [(0, .ref h0), (1, .int (nI a))] := hl
  refine lv_aload_n hx hb dCod_lengthToRun_0 rfl (lv_at hl 0 rfl) ?_
  refine lv_iload_n hx hb dCod_lengthToRun_1 rfl (lv_at hl 1 rfl) ?_
  refine XM.callVi (As := [.int (nI a)]) (rest := []) (wr := []) stX_ok ⟨hx, hb, hml, hown, hts⟩ (kCod_isSealed l dC dI kI kJ kZ h0 h1 h2 h3 cw ln z a (by first | assumption | omega)) (cwV 1 hts (x_gV gw492 gw382 gw383 gw37 gw384) rfl rfl rfl (by decide +kernel) ⟨Nat.le_of_ble_eq_true rfl, Nat.le_of_ble_eq_true rfl⟩) hK hP hD hS hA hX [0, 1, 2, 3] [] rfl rfl (by decide) (by decide) (by decide) rfl rfl rfl rfl hl.1 (Nat.le_of_ble_eq_true rfl) dCod_lengthToRun_2 ⟨Nat.le_of_ble_eq_true rfl, Nat.le_of_ble_eq_true rfl⟩ (fun r_2 u_1 H locs hw hP hD hS => ?_)
  obtain rfl := hw
  have hP : va_P (dC, dI) xCl [(h0, .inr (1, [.ref h1, .ref h2, .ref h3])), (h1, .inl (kI, 3840, .inl cw)), (h2, .inl (kI, 24, .inl (fun j => nI (ln j)))), (h3, .inl (kZ, 24, .inl (fun j => x_b (z j))))] H := hP
  have hD : va_D A [(h0, .inr (1, [.ref h1, .ref h2, .ref h3])), (h1, .inl (kI, 3840, .inl cw)), (h2, .inl (kI, 24, .inl (fun j => nI (ln j)))), (h3, .inl (kZ, 24, .inl (fun j => x_b (z j))))] := hD
  refine lv_if_eq (tgt := 17) hx hb dCod_lengthToRun_5 (by decide) (fun c5 => ?_) (fun c5 => ?_)
  · have c5 : (z a) = false := x_b0.mp c5
    refine lv_iconst (v := 0) hx hb dCod_lengthToRun_17 (by decide) ?_
    exact hret 0 (()) _ _ _ (by rw [c5]; rfl) (hP.sub [0, 1, 2, 3] rfl) (hD.sub [0, 1, 2, 3] (by decide) rfl) hS dCod_lengthToRun_18
  · have c5 : (z a) = true := Bool.of_not_eq_false (fun z9 => c5 (x_b0.mpr z9))
    refine lv_aload_n hx hb dCod_lengthToRun_8 rfl (lv_at hl 0 rfl) ?_
    refine va_get (D := (dC, dI)) (ci := 1) (v := .ref h2) (C := RCod) (T := TCod) (N := 3) hx hb hts (fun w h => List.mem_cons_of_mem _ (layCod w h)) hown hK hP 0 rfl rfl 1 (by decide) (hts (.fieldLink RCod 15 "CallLedger$Codes" "lengths" "[I") (List.mem_cons_of_mem _ gw66)) (fun _ h9 => h9) rfl dCod_lengthToRun_9 ?_
    refine lv_iload_n hx hb dCod_lengthToRun_12 rfl (lv_at hl 1 rfl) ?_
    refine x_iald (j := a) hx hb hK hP 2 0 rfl rfl rfl (by omega) (by omega) dCod_lengthToRun_13 ?_
    refine lv_goto (tgt := 18) hx hb dCod_lengthToRun_14 (by decide) ?_
    exact hret (nI (ln a)) (()) _ _ _ (by rw [c5]; rfl) (hP.sub [0, 1, 2, 3] rfl) (hD.sub [0, 1, 2, 3] (by decide) rfl) hS dCod_lengthToRun_18

set_option maxHeartbeats 4000000 in
set_option maxRecDepth 100000 in
theorem kCod_append (l : Launch) (dC : Nat → ClassId) (dI : Nat → Nat → Nat) (kI kJ kZ : ClassId) (h0 : Nat) (h1 : Nat) (h2 : Nat) (h3 : Nat) (cw : Nat → Int32) (ln : Nat → Nat) (z : Nat → Bool) (a : Nat) (w : Int32) (ha : a < 24) (hln : ∀ j, j < 24 → ln j ≤ 160) :
    XM stX l yCod_append wCod_append { frames := 1, cells := 0, slots := 0, locals := 21 } (dC, dI) xCl (x_T kI kJ kZ) [(h0, .inr (1, [.ref h1, .ref h2, .ref h3])), (h1, .inl (kI, 3840, .inl cw)), (h2, .inl (kI, 24, .inl (fun j => nI (ln j)))), (h3, .inl (kZ, 24, .inl (fun j => x_b (z j))))] [.ref h0, .int (nI a), .int w] 0 0 x_eI (fun (r : Int32) (u : (Nat → Int32) × (Nat → Nat)) => (r = if ln a < 160 then nI (ln a + 1) else -1) ∧ (u.1 = if ln a < 160 then upd cw (a * 160 + ln a) w else cw) ∧ (u.2 = if ln a < 160 then va_up ln a (ln a + 1) else ln)) (fun (u : (Nat → Int32) × (Nat → Nat)) => [(h0, .inr (1, [.ref h1, .ref h2, .ref h3])), (h1, .inl (kI, 3840, .inl u.1)), (h2, .inl (kI, 24, .inl (fun j => nI (u.2 j)))), (h3, .inl (kZ, 24, .inl (fun j => x_b (z j))))]) := by
  refine XM.ofI (cc := cCod_append) (maxL := 3) (by decide) rfl (Nat.le_of_ble_eq_true rfl) ?_
  intro p e s m below meth c A Q hx hb hr hml hown hts hlocks hin hA hK hP hD hX hS ls hl hret
  have hl : lv_has ls 3 [(0, .ref h0), (1, .int (nI a)), (2, .int w)] := hl
  have hla := hln a ha
  refine lv_iload_n hx hb dCod_append_0 rfl (lv_at hl 1 rfl) ?_
  refine lv_iconst (v := 0) hx hb dCod_append_1 (by decide) ?_
  refine XM.callSi (As := [.int (nI a), .int 0]) (rest := []) (wr := [(h0, .inr (1, [.ref h1, .ref h2, .ref h3])), (h1, .inl (kI, 3840, .inl cw)), (h2, .inl (kI, 24, .inl (fun j => nI (ln j)))), (h3, .inl (kZ, 24, .inl (fun j => x_b (z j))))]) stX_ok ⟨hx, hb, hml, hown, hts⟩ (kCod_isPlace l dC dI kI kJ kZ a 0 (by first | assumption | omega) (by first | assumption | omega)) (va_cwS 2 hts (x_gS gw385 gw386 gw37 gw387) rfl rfl rfl (by decide +kernel) ⟨Nat.le_of_ble_eq_true rfl, Nat.le_of_ble_eq_true rfl⟩) hK hP hD hS hA hX [] [0, 1, 2, 3] rfl rfl (by decide) (by decide) (by decide) rfl rfl hl.1 (Nat.le_of_ble_eq_true rfl) dCod_append_2 ⟨Nat.le_of_ble_eq_true rfl, Nat.le_of_ble_eq_true rfl⟩ (fun r_2 u_1 H locs hw hP hD hS => ?_)
  obtain rfl := hw
  have hP : va_P (dC, dI) xCl [(h0, .inr (1, [.ref h1, .ref h2, .ref h3])), (h1, .inl (kI, 3840, .inl cw)), (h2, .inl (kI, 24, .inl (fun j => nI (ln j)))), (h3, .inl (kZ, 24, .inl (fun j => x_b (z j))))] H := hP
  have hD : va_D A [(h0, .inr (1, [.ref h1, .ref h2, .ref h3])), (h1, .inl (kI, 3840, .inl cw)), (h2, .inl (kI, 24, .inl (fun j => nI (ln j)))), (h3, .inl (kZ, 24, .inl (fun j => x_b (z j))))] := hD
  refine lv_if_eq (tgt := 21) hx hb dCod_append_5 (by decide) (fun c5 => ?_) (fun c5 => ?_)
  · have c5 : ¬ (0 < 160) := x_i10.mp c5
    exfalso; exact absurd c5 (by decide)
  · have c5 : (0 < 160) := Classical.not_not.mp (fun z9 => c5 (x_i10.mpr z9))
    refine lv_iload_n hx hb dCod_append_8 rfl (lv_at hl 1 rfl) ?_
    refine lv_aload_n hx hb dCod_append_9 rfl (lv_at hl 0 rfl) ?_
    refine va_get (D := (dC, dI)) (ci := 1) (v := .ref h2) (C := RCod) (T := TCod) (N := 3) hx hb hts (fun w h => List.mem_cons_of_mem _ (layCod w h)) hown hK hP 0 rfl rfl 1 (by decide) (hts (.fieldLink RCod 15 "CallLedger$Codes" "lengths" "[I") (List.mem_cons_of_mem _ gw66)) (fun _ h9 => h9) rfl dCod_append_10 ?_
    refine lv_iload_n hx hb dCod_append_13 rfl (lv_at hl 1 rfl) ?_
    refine x_iald (j := a) hx hb hK hP 2 0 rfl rfl rfl (by omega) (by omega) dCod_append_14 ?_
    refine XM.callSi (As := [.int (nI a), .int (nI (ln a))]) (rest := []) (wr := [(h0, .inr (1, [.ref h1, .ref h2, .ref h3])), (h1, .inl (kI, 3840, .inl cw)), (h2, .inl (kI, 24, .inl (fun j => nI (ln j)))), (h3, .inl (kZ, 24, .inl (fun j => x_b (z j))))]) stX_ok ⟨hx, hb, hml, hown, hts⟩ (kCod_isPlace l dC dI kI kJ kZ a (ln a) (by first | assumption | omega) (by first | assumption | omega)) (va_cwS 2 hts (x_gS gw385 gw386 gw37 gw387) rfl rfl rfl (by decide +kernel) ⟨Nat.le_of_ble_eq_true rfl, Nat.le_of_ble_eq_true rfl⟩) hK hP hD hS hA hX [] [0, 1, 2, 3] rfl rfl (by decide) (by decide) (by decide) rfl rfl hl.1 (Nat.le_of_ble_eq_true rfl) dCod_append_15 ⟨Nat.le_of_ble_eq_true rfl, Nat.le_of_ble_eq_true rfl⟩ (fun r_4 u_3 H locs hw hP hD hS => ?_)
    obtain rfl := hw
    have hP : va_P (dC, dI) xCl [(h0, .inr (1, [.ref h1, .ref h2, .ref h3])), (h1, .inl (kI, 3840, .inl cw)), (h2, .inl (kI, 24, .inl (fun j => nI (ln j)))), (h3, .inl (kZ, 24, .inl (fun j => x_b (z j))))] H := hP
    have hD : va_D A [(h0, .inr (1, [.ref h1, .ref h2, .ref h3])), (h1, .inl (kI, 3840, .inl cw)), (h2, .inl (kI, 24, .inl (fun j => nI (ln j)))), (h3, .inl (kZ, 24, .inl (fun j => x_b (z j))))] := hD
    refine lv_if_ne (tgt := 23) hx hb dCod_append_18 (by decide) (fun c18 => ?_) (fun c18 => ?_)
    · have c18 : ((ln a) < 160) := Classical.not_not.mp (fun z9 => c18 (x_i10.mpr z9))
      refine lv_aload_n hx hb dCod_append_23 rfl (lv_at hl 0 rfl) ?_
      refine va_get (D := (dC, dI)) (ci := 1) (v := .ref h1) (C := RCod) (T := TCod) (N := 3) hx hb hts (fun w h => List.mem_cons_of_mem _ (layCod w h)) hown hK hP 0 rfl rfl 0 (by decide) (hts (.fieldLink RCod 9 "CallLedger$Codes" "words" "[I") (List.mem_cons_of_mem _ gw65)) (fun _ h9 => h9) rfl dCod_append_24 ?_
      refine lv_iload_n hx hb dCod_append_27 rfl (lv_at hl 1 rfl) ?_
      refine lv_sipush (v := 160) hx hb dCod_append_28 (by decide) ?_
      refine lv_imul hx hb dCod_append_31 ?_
      refine lv_aload_n hx hb dCod_append_32 rfl (lv_at hl 0 rfl) ?_
      refine va_get (D := (dC, dI)) (ci := 1) (v := .ref h2) (C := RCod) (T := TCod) (N := 3) hx hb hts (fun w h => List.mem_cons_of_mem _ (layCod w h)) hown hK hP 0 rfl rfl 1 (by decide) (hts (.fieldLink RCod 15 "CallLedger$Codes" "lengths" "[I") (List.mem_cons_of_mem _ gw66)) (fun _ h9 => h9) rfl dCod_append_33 ?_
      refine lv_iload_n hx hb dCod_append_36 rfl (lv_at hl 1 rfl) ?_
      refine x_iald (j := a) hx hb hK hP 2 0 rfl rfl rfl (by omega) (by omega) dCod_append_37 ?_
      refine lv_iadd hx hb dCod_append_38 ?_
      refine x_topi (y := nI (a * 160 + ln a)) (x_160) ?_
      refine lv_iload_n hx hb dCod_append_39 rfl (lv_at hl 2 rfl) ?_
      refine x_iast (j := a * 160 + ln a) hx hb hK hP hD hS 1 0 rfl rfl rfl (by omega) (by omega) dCod_append_40 (fun H locs hP hD hS => ?_)
      have hP : va_P (dC, dI) xCl [(h0, .inr (1, [.ref h1, .ref h2, .ref h3])), (h1, .inl (kI, 3840, .inl (upd cw (a * 160 + ln a) w))), (h2, .inl (kI, 24, .inl (fun j => nI (ln j)))), (h3, .inl (kZ, 24, .inl (fun j => x_b (z j))))] H := hP
      have hD : va_D A [(h0, .inr (1, [.ref h1, .ref h2, .ref h3])), (h1, .inl (kI, 3840, .inl (upd cw (a * 160 + ln a) w))), (h2, .inl (kI, 24, .inl (fun j => nI (ln j)))), (h3, .inl (kZ, 24, .inl (fun j => x_b (z j))))] := hD
      refine lv_aload_n hx hb dCod_append_41 rfl (lv_at hl 0 rfl) ?_
      refine va_get (D := (dC, dI)) (ci := 1) (v := .ref h2) (C := RCod) (T := TCod) (N := 3) hx hb hts (fun w h => List.mem_cons_of_mem _ (layCod w h)) hown hK hP 0 rfl rfl 1 (by decide) (hts (.fieldLink RCod 15 "CallLedger$Codes" "lengths" "[I") (List.mem_cons_of_mem _ gw66)) (fun _ h9 => h9) rfl dCod_append_42 ?_
      refine lv_iload_n hx hb dCod_append_45 rfl (lv_at hl 1 rfl) ?_
      refine lv_dup2_11 hx hb dCod_append_46 rfl rfl ?_
      refine x_iald (j := a) hx hb hK hP 2 0 rfl rfl rfl (by omega) (by omega) dCod_append_47 ?_
      refine lv_iconst (v := 1) hx hb dCod_append_48 (by decide) ?_
      refine lv_iadd hx hb dCod_append_49 ?_
      refine x_topi (y := nI (ln a + 1)) (nI_1 _) ?_
      refine x_iast (j := a) hx hb hK hP hD hS 2 0 rfl rfl rfl (by omega) (by omega) dCod_append_50 (fun H locs hP hD hS => ?_)
      have hP : va_P (dC, dI) xCl [(h0, .inr (1, [.ref h1, .ref h2, .ref h3])), (h1, .inl (kI, 3840, .inl (upd cw (a * 160 + ln a) w))), (h2, .inl (kI, 24, .inl (upd (fun j => nI (ln j)) a (nI (ln a + 1))))), (h3, .inl (kZ, 24, .inl (fun j => x_b (z j))))] H := hP
      have hD : va_D A [(h0, .inr (1, [.ref h1, .ref h2, .ref h3])), (h1, .inl (kI, 3840, .inl (upd cw (a * 160 + ln a) w))), (h2, .inl (kI, 24, .inl (upd (fun j => nI (ln j)) a (nI (ln a + 1))))), (h3, .inl (kZ, 24, .inl (fun j => x_b (z j))))] := hD
      rw [x_updL] at hP hD
      have hP : va_P (dC, dI) xCl [(h0, .inr (1, [.ref h1, .ref h2, .ref h3])), (h1, .inl (kI, 3840, .inl (upd cw (a * 160 + ln a) w))), (h2, .inl (kI, 24, .inl (fun j => nI (va_up ln a (ln a + 1) j)))), (h3, .inl (kZ, 24, .inl (fun j => x_b (z j))))] H := hP
      have hD : va_D A [(h0, .inr (1, [.ref h1, .ref h2, .ref h3])), (h1, .inl (kI, 3840, .inl (upd cw (a * 160 + ln a) w))), (h2, .inl (kI, 24, .inl (fun j => nI (va_up ln a (ln a + 1) j)))), (h3, .inl (kZ, 24, .inl (fun j => x_b (z j))))] := hD
      refine lv_aload_n hx hb dCod_append_51 rfl (lv_at hl 0 rfl) ?_
      refine va_get (D := (dC, dI)) (ci := 1) (v := .ref h2) (C := RCod) (T := TCod) (N := 3) hx hb hts (fun w h => List.mem_cons_of_mem _ (layCod w h)) hown hK hP 0 rfl rfl 1 (by decide) (hts (.fieldLink RCod 15 "CallLedger$Codes" "lengths" "[I") (List.mem_cons_of_mem _ gw66)) (fun _ h9 => h9) rfl dCod_append_52 ?_
      refine lv_iload_n hx hb dCod_append_55 rfl (lv_at hl 1 rfl) ?_
      refine x_iald (j := a) hx hb hK hP 2 0 rfl rfl rfl (by omega) (by omega) dCod_append_56 ?_
      refine x_topi (y := nI (ln a + 1)) (by show nI (va_up ln a (ln a + 1) a) = _; simp [va_up]) ?_
      exact hret (nI (ln a + 1)) ((upd cw (a * 160 + ln a) w, va_up ln a (ln a + 1))) _ _ _ (⟨by first | exact (if_pos ‹_›).symm | exact (if_neg ‹_›).symm, by first | exact (if_pos ‹_›).symm | exact (if_neg ‹_›).symm, by first | exact (if_pos ‹_›).symm | exact (if_neg ‹_›).symm⟩) (hP.sub [0, 1, 2, 3] rfl) (hD.sub [0, 1, 2, 3] (by decide) rfl) hS dCod_append_57
    · have c18 : ¬ ((ln a) < 160) := x_i10.mp c18
      refine lv_iconst (v := (-1)) hx hb dCod_append_21 (by decide) ?_
      exact hret (-1) ((cw, ln)) _ _ _ (⟨by first | exact (if_pos ‹_›).symm | exact (if_neg ‹_›).symm, by first | exact (if_pos ‹_›).symm | exact (if_neg ‹_›).symm, by first | exact (if_pos ‹_›).symm | exact (if_neg ‹_›).symm⟩) (hP.sub [0, 1, 2, 3] rfl) (hD.sub [0, 1, 2, 3] (by decide) rfl) hS dCod_append_22

set_option maxHeartbeats 4000000 in
set_option maxRecDepth 100000 in
theorem kCod_isGood (l : Launch) (dC : Nat → ClassId) (dI : Nat → Nat → Nat) (kI kJ kZ : ClassId) (w : Int32) (len : Nat)  :
    XM stX l yCod_isGood wCod_isGood { frames := 1, cells := 0, slots := 0, locals := 20 } (dC, dI) xCl (x_T kI kJ kZ) [] [.int w, .int (nI len)] 0 0 x_eI (fun (r : Int32) (u : Unit) => r = x_b (wGood w len)) (fun (u : Unit) => []) := by
  refine XM.ofZ (cc := cCod_isGood) (maxL := 4) (by decide) rfl (Nat.le_of_ble_eq_true rfl) ?_
  intro p e s m below meth c A Q hx hb hr hml hown hts hlocks hin hA hK hP hD hX hS ls hl hret
  have hl : lv_has ls 4 [(0, .int w), (1, .int (nI len))] := hl
  refine lv_iload_n hx hb dCod_isGood_0 rfl (lv_at hl 0 rfl) ?_
  refine XM.callSi (As := [.int w]) (rest := []) (wr := []) stX_ok ⟨hx, hb, hml, hown, hts⟩ (kCod_instructionOf l dC dI kI kJ kZ w ) (va_cwS 1 hts (x_gS gw426 gw427 gw37 gw428) rfl rfl rfl (by decide +kernel) ⟨Nat.le_of_ble_eq_true rfl, Nat.le_of_ble_eq_true rfl⟩) hK hP hD hS hA hX [] [] rfl rfl (by decide) (by decide) (by decide) rfl rfl hl.1 (Nat.le_of_ble_eq_true rfl) dCod_isGood_1 ⟨Nat.le_of_ble_eq_true rfl, Nat.le_of_ble_eq_true rfl⟩ (fun r_2 u_1 H locs hw hP hD hS => ?_)
  obtain rfl := hw
  have hP : va_P (dC, dI) xCl [] H := hP
  have hD : va_D A [] := hD
  refine lv_istore_n (lv' := [(2, .int (wI w)), (0, .int w), (1, .int (nI len))]) hx hb dCod_isGood_4 rfl hl (by decide) rfl (fun ls hl => ?_)
  refine lv_iload_n hx hb dCod_isGood_5 rfl (lv_at hl 1 rfl) ?_
  refine XM.callSi (As := [.int w]) (rest := []) (wr := []) stX_ok ⟨hx, hb, hml, hown, hts⟩ (kCod_numberOf l dC dI kI kJ kZ w ) (va_cwS 1 hts (x_gS gw429 gw430 gw37 gw431) rfl rfl rfl (by decide +kernel) ⟨Nat.le_of_ble_eq_true rfl, Nat.le_of_ble_eq_true rfl⟩) hK hP hD hS hA hX [] [] rfl rfl (by decide) (by decide) (by decide) rfl rfl hl.1 (Nat.le_of_ble_eq_true rfl) dCod_isGood_6 ⟨Nat.le_of_ble_eq_true rfl, Nat.le_of_ble_eq_true rfl⟩ (fun r_4 u_3 H locs hw hP hD hS => ?_)
  obtain rfl := hw
  have hP : va_P (dC, dI) xCl [] H := hP
  have hD : va_D A [] := hD
  refine lv_istore_n (lv' := [(3, .int (wN w)), (2, .int (wI w)), (0, .int w), (1, .int (nI len))]) hx hb dCod_isGood_9 rfl hl (by decide) rfl (fun ls hl => ?_)
  refine lv_iload_n hx hb dCod_isGood_10 rfl (lv_at hl 1 rfl) ?_
  by_cases s3 : wI w = 3
  · refine lv_lookup (tgt := 60) (off := 49) hx hb dCod_isGood_11 (by decide) (by rw [s3]; decide) (by decide) ?_
    refine lv_iload_n hx hb dCod_isGood_60 rfl (lv_at hl 0 rfl) ?_
    refine lv_if_lt (tgt := 74) hx hb dCod_isGood_61 (by decide) (fun c61 => ?_) (fun c61 => ?_)
    · refine lv_iconst (v := 0) hx hb dCod_isGood_74 (by decide) ?_
      refine lv_goto (tgt := 145) hx hb dCod_isGood_75 (by decide) ?_
      exact hret 0 (())  (rfl) _ _ _ (by simp [wGood, x_b, *]) (hP.sub [] rfl) (hD.sub [] (by decide) rfl) hS dCod_isGood_145
    · refine lv_iload_n hx hb dCod_isGood_64 rfl (lv_at hl 0 rfl) ?_
      refine lv_bipush (v := 15) hx hb dCod_isGood_65 (by decide) ?_
      refine lv_icmp_gt (tgt := 74) hx hb dCod_isGood_67 (by decide) (fun c67 => ?_) (fun c67 => ?_)
      · refine lv_iconst (v := 0) hx hb dCod_isGood_74 (by decide) ?_
        refine lv_goto (tgt := 145) hx hb dCod_isGood_75 (by decide) ?_
        exact hret 0 (())  (rfl) _ _ _ (by simp [wGood, x_b, *]) (hP.sub [] rfl) (hD.sub [] (by decide) rfl) hS dCod_isGood_145
      · refine lv_iconst (v := 1) hx hb dCod_isGood_70 (by decide) ?_
        refine lv_goto (tgt := 145) hx hb dCod_isGood_71 (by decide) ?_
        exact hret 1 (())  (rfl) _ _ _ (by simp [wGood, x_b, *]) (hP.sub [] rfl) (hD.sub [] (by decide) rfl) hS dCod_isGood_145
  by_cases s4 : wI w = 4
  · refine lv_lookup (tgt := 78) (off := 67) hx hb dCod_isGood_11 (by decide) (by rw [s4]; decide) (by decide) ?_
    refine lv_iload_n hx hb dCod_isGood_78 rfl (lv_at hl 0 rfl) ?_
    refine lv_iconst (v := 1) hx hb dCod_isGood_79 (by decide) ?_
    refine lv_icmp_lt (tgt := 93) hx hb dCod_isGood_80 (by decide) (fun c80 => ?_) (fun c80 => ?_)
    · refine lv_iconst (v := 0) hx hb dCod_isGood_93 (by decide) ?_
      refine lv_goto (tgt := 145) hx hb dCod_isGood_94 (by decide) ?_
      exact hret 0 (())  (rfl) _ _ _ (by simp [wGood, x_b, *]) (hP.sub [] rfl) (hD.sub [] (by decide) rfl) hS dCod_isGood_145
    · refine lv_iload_n hx hb dCod_isGood_83 rfl (lv_at hl 0 rfl) ?_
      refine lv_bipush (v := 15) hx hb dCod_isGood_84 (by decide) ?_
      refine lv_icmp_gt (tgt := 93) hx hb dCod_isGood_86 (by decide) (fun c86 => ?_) (fun c86 => ?_)
      · refine lv_iconst (v := 0) hx hb dCod_isGood_93 (by decide) ?_
        refine lv_goto (tgt := 145) hx hb dCod_isGood_94 (by decide) ?_
        exact hret 0 (())  (rfl) _ _ _ (by simp [wGood, x_b, *]) (hP.sub [] rfl) (hD.sub [] (by decide) rfl) hS dCod_isGood_145
      · refine lv_iconst (v := 1) hx hb dCod_isGood_89 (by decide) ?_
        refine lv_goto (tgt := 145) hx hb dCod_isGood_90 (by decide) ?_
        exact hret 1 (())  (rfl) _ _ _ (by simp [wGood, x_b, *]) (hP.sub [] rfl) (hD.sub [] (by decide) rfl) hS dCod_isGood_145
  by_cases s16 : wI w = 16
  · refine lv_lookup (tgt := 97) (off := 86) hx hb dCod_isGood_11 (by decide) (by rw [s16]; decide) (by decide) ?_
    refine lv_iload_n hx hb dCod_isGood_97 rfl (lv_at hl 0 rfl) ?_
    refine lv_if_lt (tgt := 110) hx hb dCod_isGood_98 (by decide) (fun c98 => ?_) (fun c98 => ?_)
    · refine lv_iconst (v := 0) hx hb dCod_isGood_110 (by decide) ?_
      refine lv_goto (tgt := 145) hx hb dCod_isGood_111 (by decide) ?_
      exact hret 0 (())  (rfl) _ _ _ (by simp [wGood, x_b, *]) (hP.sub [] rfl) (hD.sub [] (by decide) rfl) hS dCod_isGood_145
    · refine lv_iload_n hx hb dCod_isGood_101 rfl (lv_at hl 0 rfl) ?_
      refine lv_iload_n hx hb dCod_isGood_102 rfl (lv_at hl 3 rfl) ?_
      refine lv_icmp_gt (tgt := 110) hx hb dCod_isGood_103 (by decide) (fun c103 => ?_) (fun c103 => ?_)
      · refine lv_iconst (v := 0) hx hb dCod_isGood_110 (by decide) ?_
        refine lv_goto (tgt := 145) hx hb dCod_isGood_111 (by decide) ?_
        exact hret 0 (())  (rfl) _ _ _ (by simp [wGood, x_b, *]) (hP.sub [] rfl) (hD.sub [] (by decide) rfl) hS dCod_isGood_145
      · refine lv_iconst (v := 1) hx hb dCod_isGood_106 (by decide) ?_
        refine lv_goto (tgt := 145) hx hb dCod_isGood_107 (by decide) ?_
        exact hret 1 (())  (rfl) _ _ _ (by simp [wGood, x_b, *]) (hP.sub [] rfl) (hD.sub [] (by decide) rfl) hS dCod_isGood_145
  by_cases s17 : wI w = 17
  · refine lv_lookup (tgt := 97) (off := 86) hx hb dCod_isGood_11 (by decide) (by rw [s17]; decide) (by decide) ?_
    refine lv_iload_n hx hb dCod_isGood_97 rfl (lv_at hl 0 rfl) ?_
    refine lv_if_lt (tgt := 110) hx hb dCod_isGood_98 (by decide) (fun c98 => ?_) (fun c98 => ?_)
    · refine lv_iconst (v := 0) hx hb dCod_isGood_110 (by decide) ?_
      refine lv_goto (tgt := 145) hx hb dCod_isGood_111 (by decide) ?_
      exact hret 0 (())  (rfl) _ _ _ (by simp [wGood, x_b, *]) (hP.sub [] rfl) (hD.sub [] (by decide) rfl) hS dCod_isGood_145
    · refine lv_iload_n hx hb dCod_isGood_101 rfl (lv_at hl 0 rfl) ?_
      refine lv_iload_n hx hb dCod_isGood_102 rfl (lv_at hl 3 rfl) ?_
      refine lv_icmp_gt (tgt := 110) hx hb dCod_isGood_103 (by decide) (fun c103 => ?_) (fun c103 => ?_)
      · refine lv_iconst (v := 0) hx hb dCod_isGood_110 (by decide) ?_
        refine lv_goto (tgt := 145) hx hb dCod_isGood_111 (by decide) ?_
        exact hret 0 (())  (rfl) _ _ _ (by simp [wGood, x_b, *]) (hP.sub [] rfl) (hD.sub [] (by decide) rfl) hS dCod_isGood_145
      · refine lv_iconst (v := 1) hx hb dCod_isGood_106 (by decide) ?_
        refine lv_goto (tgt := 145) hx hb dCod_isGood_107 (by decide) ?_
        exact hret 1 (())  (rfl) _ _ _ (by simp [wGood, x_b, *]) (hP.sub [] rfl) (hD.sub [] (by decide) rfl) hS dCod_isGood_145
  by_cases s27 : wI w = 27
  · refine lv_lookup (tgt := 114) (off := 103) hx hb dCod_isGood_11 (by decide) (by rw [s27]; decide) (by decide) ?_
    refine lv_iload_n hx hb dCod_isGood_114 rfl (lv_at hl 0 rfl) ?_
    refine lv_if_lt (tgt := 128) hx hb dCod_isGood_115 (by decide) (fun c115 => ?_) (fun c115 => ?_)
    · refine lv_iconst (v := 0) hx hb dCod_isGood_128 (by decide) ?_
      refine lv_goto (tgt := 145) hx hb dCod_isGood_129 (by decide) ?_
      exact hret 0 (())  (rfl) _ _ _ (by simp [wGood, x_b, *]) (hP.sub [] rfl) (hD.sub [] (by decide) rfl) hS dCod_isGood_145
    · refine lv_iload_n hx hb dCod_isGood_118 rfl (lv_at hl 0 rfl) ?_
      refine lv_bipush (v := 8) hx hb dCod_isGood_119 (by decide) ?_
      refine lv_icmp_gt (tgt := 128) hx hb dCod_isGood_121 (by decide) (fun c121 => ?_) (fun c121 => ?_)
      · refine lv_iconst (v := 0) hx hb dCod_isGood_128 (by decide) ?_
        refine lv_goto (tgt := 145) hx hb dCod_isGood_129 (by decide) ?_
        exact hret 0 (())  (rfl) _ _ _ (by simp [wGood, x_b, *]) (hP.sub [] rfl) (hD.sub [] (by decide) rfl) hS dCod_isGood_145
      · refine lv_iconst (v := 1) hx hb dCod_isGood_124 (by decide) ?_
        refine lv_goto (tgt := 145) hx hb dCod_isGood_125 (by decide) ?_
        exact hret 1 (())  (rfl) _ _ _ (by simp [wGood, x_b, *]) (hP.sub [] rfl) (hD.sub [] (by decide) rfl) hS dCod_isGood_145
  refine lv_lookup (tgt := 132) (off := 121) hx hb dCod_isGood_11 (by decide) (by rw [lv_osw s3 (by decide)]; rw [lv_osw s4 (by decide)]; rw [lv_osw s16 (by decide)]; rw [lv_osw s17 (by decide)]; rw [lv_osw s27 (by decide)]; rfl) (by decide) ?_
  refine lv_iload_n hx hb dCod_isGood_132 rfl (lv_at hl 1 rfl) ?_
  obtain ⟨tPRICES, hZPRICES, hTPRICES⟩ := hX.2.1
  refine va_getsN hx hb hZPRICES hS hown (hX.nest (w := .fieldLinkNest RCod 44 "CallLedger" "PRICES" "[I" "CallLedger") (by decide +kernel)) (fun _ h9 => h9) dCod_isGood_133 ?_
  refine va_tlen (v := nI 30) hx hb hTPRICES hS rfl dCod_isGood_136 ?_
  refine lv_icmp_ge (tgt := 144) hx hb dCod_isGood_137 (by decide) (fun c137 => ?_) (fun c137 => ?_)
  · have c137 : (30 : Int32) ≤ wI w := c137
    refine lv_iconst (v := 0) hx hb dCod_isGood_144 (by decide) ?_
    exact hret 0 (())  (rfl) _ _ _ (by simp [wGood, x_b, *]) (hP.sub [] rfl) (hD.sub [] (by decide) rfl) hS dCod_isGood_145
  · have c137 : wI w < (30 : Int32) := Int32.not_le.mp c137
    refine lv_iconst (v := 1) hx hb dCod_isGood_140 (by decide) ?_
    refine lv_goto (tgt := 145) hx hb dCod_isGood_141 (by decide) ?_
    exact hret 1 (())  (rfl) _ _ _ (by simp [wGood, x_b, *]) (hP.sub [] rfl) (hD.sub [] (by decide) rfl) hS dCod_isGood_145

set_option maxHeartbeats 4000000 in
set_option maxRecDepth 100000 in
theorem kCod_close (l : Launch) (dC : Nat → ClassId) (dI : Nat → Nat → Nat) (kI kJ kZ : ClassId) (h0 : Nat) (h1 : Nat) (h2 : Nat) (h3 : Nat) (cw : Nat → Int32) (ln : Nat → Nat) (z : Nat → Bool) (a : Nat) (ha : a < 24) (hln : ∀ j, j < 24 → ln j ≤ 160) :
    XM stX l yCod_close wCod_close { frames := 2, cells := 0, slots := 0, locals := 43 } (dC, dI) xCl (x_T kI kJ kZ) [(h0, .inr (1, [.ref h1, .ref h2, .ref h3])), (h1, .inl (kI, 3840, .inl cw)), (h2, .inl (kI, 24, .inl (fun j => nI (ln j)))), (h3, .inl (kZ, 24, .inl (fun j => x_b (z j))))] [.ref h0, .int (nI a)] 0 0 x_eI (fun (r : Int32) (u : (Nat → Nat) × (Nat → Bool)) => (r = match wBad cw a (ln a) 0 (ln a) with | none => -1 | some k => nI k) ∧ (u.1 = match wBad cw a (ln a) 0 (ln a) with | none => ln | some _ => va_up ln a 0) ∧ (u.2 = match wBad cw a (ln a) 0 (ln a) with | none => va_up z a true | some _ => z)) (fun (u : (Nat → Nat) × (Nat → Bool)) => [(h0, .inr (1, [.ref h1, .ref h2, .ref h3])), (h1, .inl (kI, 3840, .inl cw)), (h2, .inl (kI, 24, .inl (fun j => nI (u.1 j)))), (h3, .inl (kZ, 24, .inl (fun j => x_b (u.2 j))))]) := by
  refine XM.ofI (cc := cCod_close) (maxL := 4) (by decide) rfl (Nat.le_of_ble_eq_true rfl) ?_
  intro p e s m below meth c A Q hx hb hr hml hown hts hlocks hin hA hK hP hD hX hS ls hl hret
  have hl : lv_has ls 4 [(0, .ref h0), (1, .int (nI a))] := hl
  have hla := hln a ha
  refine lv_iload_n hx hb dCod_close_0 rfl (lv_at hl 1 rfl) ?_
  refine lv_iconst (v := 0) hx hb dCod_close_1 (by decide) ?_
  refine XM.callSi (As := [.int (nI a), .int 0]) (rest := []) (wr := [(h0, .inr (1, [.ref h1, .ref h2, .ref h3])), (h1, .inl (kI, 3840, .inl cw)), (h2, .inl (kI, 24, .inl (fun j => nI (ln j)))), (h3, .inl (kZ, 24, .inl (fun j => x_b (z j))))]) stX_ok ⟨hx, hb, hml, hown, hts⟩ (kCod_isPlace l dC dI kI kJ kZ a 0 (by first | assumption | omega) (by first | assumption | omega)) (va_cwS 2 hts (x_gS gw385 gw386 gw37 gw387) rfl rfl rfl (by decide +kernel) ⟨Nat.le_of_ble_eq_true rfl, Nat.le_of_ble_eq_true rfl⟩) hK hP hD hS hA hX [] [0, 1, 2, 3] rfl rfl (by decide) (by decide) (by decide) rfl rfl hl.1 (Nat.le_of_ble_eq_true rfl) dCod_close_2 ⟨Nat.le_of_ble_eq_true rfl, Nat.le_of_ble_eq_true rfl⟩ (fun r_2 u_1 H locs hw hP hD hS => ?_)
  obtain rfl := hw
  have hP : va_P (dC, dI) xCl [(h0, .inr (1, [.ref h1, .ref h2, .ref h3])), (h1, .inl (kI, 3840, .inl cw)), (h2, .inl (kI, 24, .inl (fun j => nI (ln j)))), (h3, .inl (kZ, 24, .inl (fun j => x_b (z j))))] H := hP
  have hD : va_D A [(h0, .inr (1, [.ref h1, .ref h2, .ref h3])), (h1, .inl (kI, 3840, .inl cw)), (h2, .inl (kI, 24, .inl (fun j => nI (ln j)))), (h3, .inl (kZ, 24, .inl (fun j => x_b (z j))))] := hD
  refine lv_if_ne (tgt := 10) hx hb dCod_close_5 (by decide) (fun c5 => ?_) (fun c5 => ?_)
  · have c5 : (0 < 160) := Classical.not_not.mp (fun z9 => c5 (x_i10.mpr z9))
    refine lv_aload_n hx hb dCod_close_10 rfl (lv_at hl 0 rfl) ?_
    refine va_get (D := (dC, dI)) (ci := 1) (v := .ref h2) (C := RCod) (T := TCod) (N := 3) hx hb hts (fun w h => List.mem_cons_of_mem _ (layCod w h)) hown hK hP 0 rfl rfl 1 (by decide) (hts (.fieldLink RCod 15 "CallLedger$Codes" "lengths" "[I") (List.mem_cons_of_mem _ gw66)) (fun _ h9 => h9) rfl dCod_close_11 ?_
    refine lv_iload_n hx hb dCod_close_14 rfl (lv_at hl 1 rfl) ?_
    refine x_iald (j := a) hx hb hK hP 2 0 rfl rfl rfl (by omega) (by omega) dCod_close_15 ?_
    refine lv_istore_n (lv' := [(2, .int (nI (ln a))), (0, .ref h0), (1, .int (nI a))]) hx hb dCod_close_16 rfl hl (by decide) rfl (fun ls hl => ?_)
    refine lv_iconst (v := 0) hx hb dCod_close_17 (by decide) ?_
    refine lv_istore_n (lv' := [(3, .int 0), (2, .int (nI (ln a))), (0, .ref h0), (1, .int (nI a))]) hx hb dCod_close_18 rfl hl (by decide) rfl (fun ls hl => ?_)
    have loop19 : ∀ (N : Nat) (k : Nat), ∀ (hN : ln a - k < N) (hk : k ≤ ln a) (hbd : wBad cw a (ln a) k (ln a - k) = wBad cw a (ln a) 0 (ln a)) (H : Heap) (locs : List Loc), va_P (dC, dI) xCl [(h0, .inr (1, [.ref h1, .ref h2, .ref h3])), (h1, .inl (kI, 3840, .inl cw)), (h2, .inl (kI, 24, .inl (fun j => nI (ln j)))), (h3, .inl (kZ, 24, .inl (fun j => x_b (z j))))] H → va_D A [(h0, .inr (1, [.ref h1, .ref h2, .ref h3])), (h1, .inl (kI, 3840, .inl cw)), (h2, .inl (kI, 24, .inl (fun j => nI (ln j)))), (h3, .inl (kZ, 24, .inl (fun j => x_b (z j))))] → va_S A s.heap H locs → ∀ ls, lv_has ls 4 [(0, .ref h0), (1, .int (nI a)), (2, .int (nI (ln a))), (3, .int (nI k))] → W p l e { frames := 2, cells := 0, slots := 0, locals := 43 } s m [.ref h0, .int (nI a)].toArray below meth c H locs 0 0 Q (F0 m 19 ls []) := by
      intro N
      induction N with
      | zero => intro k hN; exact absurd hN (Nat.not_lt_zero _)
      | succ N ih =>
        intro k hN hk hbd H locs hP hD hS ls hl
        refine lv_iload_n hx hb dCod_close_19 rfl (lv_at hl 3 rfl) ?_
        refine lv_iload_n hx hb dCod_close_20 rfl (lv_at hl 2 rfl) ?_
        refine lv_icmp_ge (tgt := 52) hx hb dCod_close_21 (by decide) (fun c21 => ?_) (fun c21 => ?_)
        · have c21 : (ln a) ≤ k := (nI_leI (a := (ln a)) (b := k) (by omega) (by omega)).mp c21
          refine lv_aload_n hx hb dCod_close_52 rfl (lv_at hl 0 rfl) ?_
          refine va_get (D := (dC, dI)) (ci := 1) (v := .ref h3) (C := RCod) (T := TCod) (N := 3) hx hb hts (fun w h => List.mem_cons_of_mem _ (layCod w h)) hown hK hP 0 rfl rfl 2 (by decide) (hts (.fieldLink RCod 18 "CallLedger$Codes" "sealedOnes" "[Z") (List.mem_cons_of_mem _ gw67)) (fun _ h9 => h9) rfl dCod_close_53 ?_
          refine lv_iload_n hx hb dCod_close_56 rfl (lv_at hl 1 rfl) ?_
          refine lv_iconst (v := 1) hx hb dCod_close_57 (by decide) ?_
          refine x_zast (j := a) hx hb hK hP hD hS 3 2 rfl rfl rfl (by omega) (by omega) dCod_close_58 rfl (fun H locs hP hD hS => ?_)
          have hP : va_P (dC, dI) xCl [(h0, .inr (1, [.ref h1, .ref h2, .ref h3])), (h1, .inl (kI, 3840, .inl cw)), (h2, .inl (kI, 24, .inl (fun j => nI (ln j)))), (h3, .inl (kZ, 24, .inl (upd (fun j => x_b (z j)) a 1)))] H := hP
          have hD : va_D A [(h0, .inr (1, [.ref h1, .ref h2, .ref h3])), (h1, .inl (kI, 3840, .inl cw)), (h2, .inl (kI, 24, .inl (fun j => nI (ln j)))), (h3, .inl (kZ, 24, .inl (upd (fun j => x_b (z j)) a 1)))] := hD
          rw [(show upd (fun j => x_b (z j)) a 1 = fun j => x_b (va_up z a true j) from x_updB z a true)] at hP hD
          have hP : va_P (dC, dI) xCl [(h0, .inr (1, [.ref h1, .ref h2, .ref h3])), (h1, .inl (kI, 3840, .inl cw)), (h2, .inl (kI, 24, .inl (fun j => nI (ln j)))), (h3, .inl (kZ, 24, .inl (fun j => x_b (va_up z a true j))))] H := hP
          have hD : va_D A [(h0, .inr (1, [.ref h1, .ref h2, .ref h3])), (h1, .inl (kI, 3840, .inl cw)), (h2, .inl (kI, 24, .inl (fun j => nI (ln j)))), (h3, .inl (kZ, 24, .inl (fun j => x_b (va_up z a true j))))] := hD
          refine lv_iconst (v := (-1)) hx hb dCod_close_59 (by decide) ?_
          rw [show ln a - k = 0 from by omega] at hbd
          have hbd : (none : Option Nat) = wBad cw a (ln a) 0 (ln a) := hbd
          exact hret (-1) ((ln, va_up z a true)) _ _ _ (⟨by rw [← hbd], by rw [← hbd], by rw [← hbd]⟩) (hP.sub [0, 1, 2, 3] rfl) (hD.sub [0, 1, 2, 3] (by decide) rfl) hS dCod_close_60
        · have c21 : ¬ ((ln a) ≤ k) := fun z9 => c21 ((nI_leI (a := (ln a)) (b := k) (by omega) (by omega)).mpr z9)
          refine lv_aload_n hx hb dCod_close_24 rfl (lv_at hl 0 rfl) ?_
          refine lv_iload_n hx hb dCod_close_25 rfl (lv_at hl 1 rfl) ?_
          refine lv_iload_n hx hb dCod_close_26 rfl (lv_at hl 3 rfl) ?_
          refine XM.callVi (As := [.int (nI a), .int (nI k)]) (rest := []) (wr := []) stX_ok ⟨hx, hb, hml, hown, hts⟩ (kCod_wordAt l dC dI kI kJ kZ h0 h1 h2 h3 cw ln z a k (by first | assumption | omega) (by first | assumption | omega)) (cwV 2 hts (x_gV gw419 gw420 gw421 gw37 gw422) rfl rfl rfl (by decide +kernel) ⟨Nat.le_of_ble_eq_true rfl, Nat.le_of_ble_eq_true rfl⟩) hK hP hD hS hA hX [0, 1, 2, 3] [] rfl rfl (by decide) (by decide) (by decide) rfl rfl rfl rfl hl.1 (Nat.le_of_ble_eq_true rfl) dCod_close_27 ⟨Nat.le_of_ble_eq_true rfl, Nat.le_of_ble_eq_true rfl⟩ (fun r_4 u_3 H locs hw hP hD hS => ?_)
          obtain rfl := hw
          have hP : va_P (dC, dI) xCl [(h0, .inr (1, [.ref h1, .ref h2, .ref h3])), (h1, .inl (kI, 3840, .inl cw)), (h2, .inl (kI, 24, .inl (fun j => nI (ln j)))), (h3, .inl (kZ, 24, .inl (fun j => x_b (z j))))] H := hP
          have hD : va_D A [(h0, .inr (1, [.ref h1, .ref h2, .ref h3])), (h1, .inl (kI, 3840, .inl cw)), (h2, .inl (kI, 24, .inl (fun j => nI (ln j)))), (h3, .inl (kZ, 24, .inl (fun j => x_b (z j))))] := hD
          refine lv_iload_n hx hb dCod_close_30 rfl (lv_at hl 2 rfl) ?_
          refine XM.callSi (As := [.int (cw (a * 160 + k)), .int (nI (ln a))]) (rest := []) (wr := [(h0, .inr (1, [.ref h1, .ref h2, .ref h3])), (h1, .inl (kI, 3840, .inl cw)), (h2, .inl (kI, 24, .inl (fun j => nI (ln j)))), (h3, .inl (kZ, 24, .inl (fun j => x_b (z j))))]) stX_ok ⟨hx, hb, hml, hown, hts⟩ (kCod_isGood l dC dI kI kJ kZ (cw (a * 160 + k)) (ln a) ) (va_cwS 2 hts (x_gS gw423 gw424 gw37 gw425) rfl rfl rfl (by decide +kernel) ⟨Nat.le_of_ble_eq_true rfl, Nat.le_of_ble_eq_true rfl⟩) hK hP hD hS hA hX [] [0, 1, 2, 3] rfl rfl (by decide) (by decide) (by decide) rfl rfl hl.1 (Nat.le_of_ble_eq_true rfl) dCod_close_31 ⟨Nat.le_of_ble_eq_true rfl, Nat.le_of_ble_eq_true rfl⟩ (fun r_6 u_5 H locs hw hP hD hS => ?_)
          obtain rfl := hw
          have hP : va_P (dC, dI) xCl [(h0, .inr (1, [.ref h1, .ref h2, .ref h3])), (h1, .inl (kI, 3840, .inl cw)), (h2, .inl (kI, 24, .inl (fun j => nI (ln j)))), (h3, .inl (kZ, 24, .inl (fun j => x_b (z j))))] H := hP
          have hD : va_D A [(h0, .inr (1, [.ref h1, .ref h2, .ref h3])), (h1, .inl (kI, 3840, .inl cw)), (h2, .inl (kI, 24, .inl (fun j => nI (ln j)))), (h3, .inl (kZ, 24, .inl (fun j => x_b (z j))))] := hD
          refine lv_if_ne (tgt := 46) hx hb dCod_close_34 (by decide) (fun c34 => ?_) (fun c34 => ?_)
          · have c34 : (wGood (cw (a * 160 + k)) (ln a)) = true := Bool.of_not_eq_false (fun z9 => c34 (x_b0.mpr z9))
            refine lv_iinc (v := nI (k + 1)) (lv' := [(3, .int (nI (k + 1))), (0, .ref h0), (1, .int (nI a)), (2, .int (nI (ln a)))]) hx hb dCod_close_46 hl (k := 3) rfl (nI_1 _) (by decide) rfl (fun ls hl => ?_)
            refine lv_goto (tgt := 19) hx hb dCod_close_49 (by decide) ?_
            exact ih (k + 1) (by omega) (by omega) (by rw [← hbd, wBad_good (by omega) c34]) _ _ (hP.sub [0, 1, 2, 3] rfl) (hD.sub [0, 1, 2, 3] (by decide) rfl) hS _ (lv_sub hl [1, 2, 3, 0] rfl)
          · have c34 : (wGood (cw (a * 160 + k)) (ln a)) = false := x_b0.mp c34
            refine lv_aload_n hx hb dCod_close_37 rfl (lv_at hl 0 rfl) ?_
            refine va_get (D := (dC, dI)) (ci := 1) (v := .ref h2) (C := RCod) (T := TCod) (N := 3) hx hb hts (fun w h => List.mem_cons_of_mem _ (layCod w h)) hown hK hP 0 rfl rfl 1 (by decide) (hts (.fieldLink RCod 15 "CallLedger$Codes" "lengths" "[I") (List.mem_cons_of_mem _ gw66)) (fun _ h9 => h9) rfl dCod_close_38 ?_
            refine lv_iload_n hx hb dCod_close_41 rfl (lv_at hl 1 rfl) ?_
            refine lv_iconst (v := 0) hx hb dCod_close_42 (by decide) ?_
            refine x_iast (j := a) hx hb hK hP hD hS 2 0 rfl rfl rfl (by omega) (by omega) dCod_close_43 (fun H locs hP hD hS => ?_)
            have hP : va_P (dC, dI) xCl [(h0, .inr (1, [.ref h1, .ref h2, .ref h3])), (h1, .inl (kI, 3840, .inl cw)), (h2, .inl (kI, 24, .inl (upd (fun j => nI (ln j)) a 0))), (h3, .inl (kZ, 24, .inl (fun j => x_b (z j))))] H := hP
            have hD : va_D A [(h0, .inr (1, [.ref h1, .ref h2, .ref h3])), (h1, .inl (kI, 3840, .inl cw)), (h2, .inl (kI, 24, .inl (upd (fun j => nI (ln j)) a 0))), (h3, .inl (kZ, 24, .inl (fun j => x_b (z j))))] := hD
            rw [(show upd (fun j => nI (ln j)) a 0 = fun j => nI (va_up ln a 0 j) from x_updL ln a 0)] at hP hD
            have hP : va_P (dC, dI) xCl [(h0, .inr (1, [.ref h1, .ref h2, .ref h3])), (h1, .inl (kI, 3840, .inl cw)), (h2, .inl (kI, 24, .inl (fun j => nI (va_up ln a 0 j)))), (h3, .inl (kZ, 24, .inl (fun j => x_b (z j))))] H := hP
            have hD : va_D A [(h0, .inr (1, [.ref h1, .ref h2, .ref h3])), (h1, .inl (kI, 3840, .inl cw)), (h2, .inl (kI, 24, .inl (fun j => nI (va_up ln a 0 j)))), (h3, .inl (kZ, 24, .inl (fun j => x_b (z j))))] := hD
            refine lv_iload_n hx hb dCod_close_44 rfl (lv_at hl 3 rfl) ?_
            rw [wBad_bad (by omega) c34] at hbd
            exact hret (nI k) ((va_up ln a 0, z)) _ _ _ (⟨by rw [← hbd], by rw [← hbd], by rw [← hbd]⟩) (hP.sub [0, 1, 2, 3] rfl) (hD.sub [0, 1, 2, 3] (by decide) rfl) hS dCod_close_45
    exact loop19 _ 0 (Nat.lt_succ_self _) (Nat.zero_le _) (rfl) _ _ (hP.sub [0, 1, 2, 3] rfl) (hD.sub [0, 1, 2, 3] (by decide) rfl) hS _ (lv_sub hl [2, 3, 1, 0] rfl)
  · have c5 : ¬ (0 < 160) := x_i10.mp c5
    exfalso; exact absurd c5 (by decide)

