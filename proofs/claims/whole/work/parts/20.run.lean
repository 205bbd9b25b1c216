theorem dRun_end_0 : decode cRun_end 0 = .ok (.aload_n 0, 1) := by decide +kernel
theorem dRun_end_1 : decode cRun_end 1 = .ok (.iload_n 1, 1) := by decide +kernel
theorem dRun_end_2 : decode cRun_end 2 = .ok (.putfield 65, 3) := by decide +kernel
theorem dRun_end_5 : decode cRun_end 5 = .ok (.aload_n 0, 1) := by decide +kernel
theorem dRun_end_6 : decode cRun_end 6 = .ok (.iload_n 2, 1) := by decide +kernel
theorem dRun_end_7 : decode cRun_end 7 = .ok (.putfield 68, 3) := by decide +kernel
theorem dRun_end_10 : decode cRun_end 10 = .ok (.return_, 1) := by decide +kernel
theorem dRun_trap_0 : decode cRun_trap 0 = .ok (.aload_n 0, 1) := by decide +kernel
theorem dRun_trap_1 : decode cRun_trap 1 = .ok (.iconst 0, 1) := by decide +kernel
theorem dRun_trap_2 : decode cRun_trap 2 = .ok (.putfield 56, 3) := by decide +kernel
theorem dRun_trap_5 : decode cRun_trap 5 = .ok (.aload_n 0, 1) := by decide +kernel
theorem dRun_trap_6 : decode cRun_trap 6 = .ok (.iload_n 1, 1) := by decide +kernel
theorem dRun_trap_7 : decode cRun_trap 7 = .ok (.iconst 0, 1) := by decide +kernel
theorem dRun_trap_8 : decode cRun_trap 8 = .ok (.invokevirtual 117, 3) := by decide +kernel
theorem dRun_trap_11 : decode cRun_trap 11 = .ok (.return_, 1) := by decide +kernel
theorem dRun_entry_0 : decode cRun_entry 0 = .ok (.iload_n 1, 1) := by decide +kernel
theorem dRun_entry_1 : decode cRun_entry 1 = .ok (.ifCond .lt 15, 3) := by decide +kernel
theorem dRun_entry_4 : decode cRun_entry 4 = .ok (.iload_n 1, 1) := by decide +kernel
theorem dRun_entry_5 : decode cRun_entry 5 = .ok (.aload_n 0, 1) := by decide +kernel
theorem dRun_entry_6 : decode cRun_entry 6 = .ok (.arraylength, 1) := by decide +kernel
theorem dRun_entry_7 : decode cRun_entry 7 = .ok (.if_icmp .ge 9, 3) := by decide +kernel
theorem dRun_entry_10 : decode cRun_entry 10 = .ok (.aload_n 0, 1) := by decide +kernel
theorem dRun_entry_11 : decode cRun_entry 11 = .ok (.iload_n 1, 1) := by decide +kernel
theorem dRun_entry_12 : decode cRun_entry 12 = .ok (.iaload, 1) := by decide +kernel
theorem dRun_entry_13 : decode cRun_entry 13 = .ok (.goto 4, 3) := by decide +kernel
theorem dRun_entry_16 : decode cRun_entry 16 = .ok (.iconst 0, 1) := by decide +kernel
theorem dRun_entry_17 : decode cRun_entry 17 = .ok (.ireturn, 1) := by decide +kernel
theorem dRun_needOf_0 : decode cRun_needOf 0 = .ok (.getstatic 151, 3) := by decide +kernel
theorem dRun_needOf_3 : decode cRun_needOf 3 = .ok (.iload_n 1, 1) := by decide +kernel
theorem dRun_needOf_4 : decode cRun_needOf 4 = .ok (.invokestatic 154, 3) := by decide +kernel
theorem dRun_needOf_7 : decode cRun_needOf 7 = .ok (.istore_n 3, 1) := by decide +kernel
theorem dRun_needOf_8 : decode cRun_needOf 8 = .ok (.iload_n 1, 1) := by decide +kernel
theorem dRun_needOf_9 : decode cRun_needOf 9 = .ok (.iconst 3, 1) := by decide +kernel
theorem dRun_needOf_10 : decode cRun_needOf 10 = .ok (.if_icmp .eq 14, 3) := by decide +kernel
theorem dRun_needOf_13 : decode cRun_needOf 13 = .ok (.iload_n 1, 1) := by decide +kernel
theorem dRun_needOf_14 : decode cRun_needOf 14 = .ok (.iconst 4, 1) := by decide +kernel
theorem dRun_needOf_15 : decode cRun_needOf 15 = .ok (.if_icmp .eq 9, 3) := by decide +kernel
theorem dRun_needOf_18 : decode cRun_needOf 18 = .ok (.iload_n 1, 1) := by decide +kernel
theorem dRun_needOf_19 : decode cRun_needOf 19 = .ok (.bipush 27, 2) := by decide +kernel
theorem dRun_needOf_21 : decode cRun_needOf 21 = .ok (.if_icmp .ne 7, 3) := by decide +kernel
theorem dRun_needOf_24 : decode cRun_needOf 24 = .ok (.iconst 1, 1) := by decide +kernel
theorem dRun_needOf_25 : decode cRun_needOf 25 = .ok (.goto 4, 3) := by decide +kernel
theorem dRun_needOf_28 : decode cRun_needOf 28 = .ok (.iconst 0, 1) := by decide +kernel
theorem dRun_needOf_29 : decode cRun_needOf 29 = .ok (.istore 4, 2) := by decide +kernel
theorem dRun_needOf_31 : decode cRun_needOf 31 = .ok (.iload 4, 2) := by decide +kernel
theorem dRun_needOf_33 : decode cRun_needOf 33 = .ok (.ifCond .eq 9, 3) := by decide +kernel
theorem dRun_needOf_36 : decode cRun_needOf 36 = .ok (.iload_n 3, 1) := by decide +kernel
theorem dRun_needOf_37 : decode cRun_needOf 37 = .ok (.iload_n 2, 1) := by decide +kernel
theorem dRun_needOf_38 : decode cRun_needOf 38 = .ok (.iadd, 1) := by decide +kernel
theorem dRun_needOf_39 : decode cRun_needOf 39 = .ok (.goto 4, 3) := by decide +kernel
theorem dRun_needOf_42 : decode cRun_needOf 42 = .ok (.iload_n 3, 1) := by decide +kernel
theorem dRun_needOf_43 : decode cRun_needOf 43 = .ok (.ireturn, 1) := by decide +kernel
theorem dRun_pushesMoreThanItPops_0 : decode cRun_pushesMoreThanItPops 0 = .ok (.iload_n 0, 1) := by decide +kernel
theorem dRun_pushesMoreThanItPops_1 : decode cRun_pushesMoreThanItPops 1 = .ok (.lookupswitch 63 #[(1, 59), (3, 59), (21, 59), (22, 59), (23, 59), (28, 59)], 59) := by decide +kernel
theorem dRun_pushesMoreThanItPops_60 : decode cRun_pushesMoreThanItPops 60 = .ok (.iconst 1, 1) := by decide +kernel
theorem dRun_pushesMoreThanItPops_61 : decode cRun_pushesMoreThanItPops 61 = .ok (.goto 4, 3) := by decide +kernel
theorem dRun_pushesMoreThanItPops_64 : decode cRun_pushesMoreThanItPops 64 = .ok (.iconst 0, 1) := by decide +kernel
theorem dRun_pushesMoreThanItPops_65 : decode cRun_pushesMoreThanItPops 65 = .ok (.ireturn, 1) := by decide +kernel
theorem dRun_computed_0 : decode cRun_computed 0 = .ok (.iload_n 0, 1) := by decide +kernel
theorem dRun_computed_1 : decode cRun_computed 1 = .ok (.tableswitch 149 5 15 #[59, 65, 71, 77, 91, 105, 118, 149, 131, 137, 143], 59) := by decide +kernel
theorem dRun_computed_60 : decode cRun_computed 60 = .ok (.iload_n 1, 1) := by decide +kernel
theorem dRun_computed_61 : decode cRun_computed 61 = .ok (.iload_n 2, 1) := by decide +kernel
theorem dRun_computed_62 : decode cRun_computed 62 = .ok (.iadd, 1) := by decide +kernel
theorem dRun_computed_63 : decode cRun_computed 63 = .ok (.goto 88, 3) := by decide +kernel
theorem dRun_computed_66 : decode cRun_computed 66 = .ok (.iload_n 1, 1) := by decide +kernel
theorem dRun_computed_67 : decode cRun_computed 67 = .ok (.iload_n 2, 1) := by decide +kernel
theorem dRun_computed_68 : decode cRun_computed 68 = .ok (.isub, 1) := by decide +kernel
theorem dRun_computed_69 : decode cRun_computed 69 = .ok (.goto 82, 3) := by decide +kernel
theorem dRun_computed_72 : decode cRun_computed 72 = .ok (.iload_n 1, 1) := by decide +kernel
theorem dRun_computed_73 : decode cRun_computed 73 = .ok (.iload_n 2, 1) := by decide +kernel
theorem dRun_computed_74 : decode cRun_computed 74 = .ok (.imul, 1) := by decide +kernel
theorem dRun_computed_75 : decode cRun_computed 75 = .ok (.goto 76, 3) := by decide +kernel
theorem dRun_computed_78 : decode cRun_computed 78 = .ok (.iload_n 2, 1) := by decide +kernel
theorem dRun_computed_79 : decode cRun_computed 79 = .ok (.ifCond .ne 7, 3) := by decide +kernel
theorem dRun_computed_82 : decode cRun_computed 82 = .ok (.iconst 0, 1) := by decide +kernel
theorem dRun_computed_83 : decode cRun_computed 83 = .ok (.goto 68, 3) := by decide +kernel
theorem dRun_computed_86 : decode cRun_computed 86 = .ok (.iload_n 1, 1) := by decide +kernel
theorem dRun_computed_87 : decode cRun_computed 87 = .ok (.iload_n 2, 1) := by decide +kernel
theorem dRun_computed_88 : decode cRun_computed 88 = .ok (.idiv, 1) := by decide +kernel
theorem dRun_computed_89 : decode cRun_computed 89 = .ok (.goto 62, 3) := by decide +kernel
theorem dRun_computed_92 : decode cRun_computed 92 = .ok (.iload_n 2, 1) := by decide +kernel
theorem dRun_computed_93 : decode cRun_computed 93 = .ok (.ifCond .ne 7, 3) := by decide +kernel
theorem dRun_computed_96 : decode cRun_computed 96 = .ok (.iload_n 1, 1) := by decide +kernel
theorem dRun_computed_97 : decode cRun_computed 97 = .ok (.goto 54, 3) := by decide +kernel
theorem dRun_computed_100 : decode cRun_computed 100 = .ok (.iload_n 1, 1) := by decide +kernel
theorem dRun_computed_101 : decode cRun_computed 101 = .ok (.iload_n 2, 1) := by decide +kernel
theorem dRun_computed_102 : decode cRun_computed 102 = .ok (.irem, 1) := by decide +kernel
theorem dRun_computed_103 : decode cRun_computed 103 = .ok (.goto 48, 3) := by decide +kernel
theorem dRun_computed_106 : decode cRun_computed 106 = .ok (.iload_n 1, 1) := by decide +kernel
theorem dRun_computed_107 : decode cRun_computed 107 = .ok (.iload_n 2, 1) := by decide +kernel
theorem dRun_computed_108 : decode cRun_computed 108 = .ok (.if_icmp .ge 7, 3) := by decide +kernel
theorem dRun_computed_111 : decode cRun_computed 111 = .ok (.iconst 1, 1) := by decide +kernel
theorem dRun_computed_112 : decode cRun_computed 112 = .ok (.goto 39, 3) := by decide +kernel
theorem dRun_computed_115 : decode cRun_computed 115 = .ok (.iconst 0, 1) := by decide +kernel
theorem dRun_computed_116 : decode cRun_computed 116 = .ok (.goto 35, 3) := by decide +kernel
theorem dRun_computed_119 : decode cRun_computed 119 = .ok (.iload_n 1, 1) := by decide +kernel
theorem dRun_computed_120 : decode cRun_computed 120 = .ok (.iload_n 2, 1) := by decide +kernel
theorem dRun_computed_121 : decode cRun_computed 121 = .ok (.if_icmp .ne 7, 3) := by decide +kernel
theorem dRun_computed_124 : decode cRun_computed 124 = .ok (.iconst 1, 1) := by decide +kernel
theorem dRun_computed_125 : decode cRun_computed 125 = .ok (.goto 26, 3) := by decide +kernel
theorem dRun_computed_128 : decode cRun_computed 128 = .ok (.iconst 0, 1) := by decide +kernel
theorem dRun_computed_129 : decode cRun_computed 129 = .ok (.goto 22, 3) := by decide +kernel
theorem dRun_computed_132 : decode cRun_computed 132 = .ok (.iload_n 1, 1) := by decide +kernel
theorem dRun_computed_133 : decode cRun_computed 133 = .ok (.iload_n 2, 1) := by decide +kernel
theorem dRun_computed_134 : decode cRun_computed 134 = .ok (.iand, 1) := by decide +kernel
theorem dRun_computed_135 : decode cRun_computed 135 = .ok (.goto 16, 3) := by decide +kernel
theorem dRun_computed_138 : decode cRun_computed 138 = .ok (.iload_n 1, 1) := by decide +kernel
theorem dRun_computed_139 : decode cRun_computed 139 = .ok (.iload_n 2, 1) := by decide +kernel
theorem dRun_computed_140 : decode cRun_computed 140 = .ok (.ior, 1) := by decide +kernel
theorem dRun_computed_141 : decode cRun_computed 141 = .ok (.goto 10, 3) := by decide +kernel
theorem dRun_computed_144 : decode cRun_computed 144 = .ok (.iload_n 1, 1) := by decide +kernel
theorem dRun_computed_145 : decode cRun_computed 145 = .ok (.iload_n 2, 1) := by decide +kernel
theorem dRun_computed_146 : decode cRun_computed 146 = .ok (.ixor, 1) := by decide +kernel
theorem dRun_computed_147 : decode cRun_computed 147 = .ok (.goto 4, 3) := by decide +kernel
theorem dRun_computed_150 : decode cRun_computed 150 = .ok (.iconst 0, 1) := by decide +kernel
theorem dRun_computed_151 : decode cRun_computed 151 = .ok (.ireturn, 1) := by decide +kernel
theorem dRun_storePrice_0 : decode cRun_storePrice 0 = .ok (.aload_n 0, 1) := by decide +kernel
theorem dRun_storePrice_1 : decode cRun_storePrice 1 = .ok (.getfield 14, 3) := by decide +kernel
theorem dRun_storePrice_4 : decode cRun_storePrice 4 = .ok (.invokevirtual 99, 3) := by decide +kernel
theorem dRun_storePrice_7 : decode cRun_storePrice 7 = .ok (.iconst 2, 1) := by decide +kernel
theorem dRun_storePrice_8 : decode cRun_storePrice 8 = .ok (.if_icmp .ge 5, 3) := by decide +kernel
theorem dRun_storePrice_11 : decode cRun_storePrice 11 = .ok (.iconst 5, 1) := by decide +kernel
theorem dRun_storePrice_12 : decode cRun_storePrice 12 = .ok (.ireturn, 1) := by decide +kernel
theorem dRun_storePrice_13 : decode cRun_storePrice 13 = .ok (.aload_n 0, 1) := by decide +kernel
theorem dRun_storePrice_14 : decode cRun_storePrice 14 = .ok (.getfield 35, 3) := by decide +kernel
theorem dRun_storePrice_17 : decode cRun_storePrice 17 = .ok (.aload_n 0, 1) := by decide +kernel
theorem dRun_storePrice_18 : decode cRun_storePrice 18 = .ok (.getfield 50, 3) := by decide +kernel
theorem dRun_storePrice_21 : decode cRun_storePrice 21 = .ok (.aload_n 0, 1) := by decide +kernel
theorem dRun_storePrice_22 : decode cRun_storePrice 22 = .ok (.getfield 14, 3) := by decide +kernel
theorem dRun_storePrice_25 : decode cRun_storePrice 25 = .ok (.iconst 1, 1) := by decide +kernel
theorem dRun_storePrice_26 : decode cRun_storePrice 26 = .ok (.invokevirtual 167, 3) := by decide +kernel
theorem dRun_storePrice_29 : decode cRun_storePrice 29 = .ok (.invokevirtual 170, 3) := by decide +kernel
theorem dRun_storePrice_32 : decode cRun_storePrice 32 = .ok (.istore_n 1, 1) := by decide +kernel
theorem dRun_storePrice_33 : decode cRun_storePrice 33 = .ok (.iload_n 1, 1) := by decide +kernel
theorem dRun_storePrice_34 : decode cRun_storePrice 34 = .ok (.aload_n 0, 1) := by decide +kernel
theorem dRun_storePrice_35 : decode cRun_storePrice 35 = .ok (.getfield 14, 3) := by decide +kernel
theorem dRun_storePrice_38 : decode cRun_storePrice 38 = .ok (.iconst 0, 1) := by decide +kernel
theorem dRun_storePrice_39 : decode cRun_storePrice 39 = .ok (.invokevirtual 167, 3) := by decide +kernel
theorem dRun_storePrice_42 : decode cRun_storePrice 42 = .ok (.if_icmp .ne 5, 3) := by decide +kernel
theorem dRun_storePrice_45 : decode cRun_storePrice 45 = .ok (.iconst 5, 1) := by decide +kernel
theorem dRun_storePrice_46 : decode cRun_storePrice 46 = .ok (.ireturn, 1) := by decide +kernel
theorem dRun_storePrice_47 : decode cRun_storePrice 47 = .ok (.iload_n 1, 1) := by decide +kernel
theorem dRun_storePrice_48 : decode cRun_storePrice 48 = .ok (.ifCond .ne 8, 3) := by decide +kernel
theorem dRun_storePrice_51 : decode cRun_storePrice 51 = .ok (.bipush 40, 2) := by decide +kernel
theorem dRun_storePrice_53 : decode cRun_storePrice 53 = .ok (.goto 5, 3) := by decide +kernel
theorem dRun_storePrice_56 : decode cRun_storePrice 56 = .ok (.bipush 20, 2) := by decide +kernel
theorem dRun_storePrice_58 : decode cRun_storePrice 58 = .ok (.ireturn, 1) := by decide +kernel
theorem dRun_callPrice_0 : decode cRun_callPrice 0 = .ok (.aload_n 0, 1) := by decide +kernel
theorem dRun_callPrice_1 : decode cRun_callPrice 1 = .ok (.getfield 14, 3) := by decide +kernel
theorem dRun_callPrice_4 : decode cRun_callPrice 4 = .ok (.invokevirtual 99, 3) := by decide +kernel
theorem dRun_callPrice_7 : decode cRun_callPrice 7 = .ok (.iconst 2, 1) := by decide +kernel
theorem dRun_callPrice_8 : decode cRun_callPrice 8 = .ok (.if_icmp .lt 18, 3) := by decide +kernel
theorem dRun_callPrice_11 : decode cRun_callPrice 11 = .ok (.aload_n 0, 1) := by decide +kernel
theorem dRun_callPrice_12 : decode cRun_callPrice 12 = .ok (.getfield 14, 3) := by decide +kernel
theorem dRun_callPrice_15 : decode cRun_callPrice 15 = .ok (.iconst 1, 1) := by decide +kernel
theorem dRun_callPrice_16 : decode cRun_callPrice 16 = .ok (.invokevirtual 167, 3) := by decide +kernel
theorem dRun_callPrice_19 : decode cRun_callPrice 19 = .ok (.ifCond .eq 7, 3) := by decide +kernel
theorem dRun_callPrice_22 : decode cRun_callPrice 22 = .ok (.iconst 1, 1) := by decide +kernel
theorem dRun_callPrice_23 : decode cRun_callPrice 23 = .ok (.goto 4, 3) := by decide +kernel
theorem dRun_callPrice_26 : decode cRun_callPrice 26 = .ok (.iconst 0, 1) := by decide +kernel
theorem dRun_callPrice_27 : decode cRun_callPrice 27 = .ok (.istore_n 1, 1) := by decide +kernel
theorem dRun_callPrice_28 : decode cRun_callPrice 28 = .ok (.iload_n 1, 1) := by decide +kernel
theorem dRun_callPrice_29 : decode cRun_callPrice 29 = .ok (.ifCond .eq 8, 3) := by decide +kernel
theorem dRun_callPrice_32 : decode cRun_callPrice 32 = .ok (.bipush 40, 2) := by decide +kernel
theorem dRun_callPrice_34 : decode cRun_callPrice 34 = .ok (.goto 5, 3) := by decide +kernel
theorem dRun_callPrice_37 : decode cRun_callPrice 37 = .ok (.bipush 25, 2) := by decide +kernel
theorem dRun_callPrice_39 : decode cRun_callPrice 39 = .ok (.ireturn, 1) := by decide +kernel
theorem dRun_priceOf_0 : decode cRun_priceOf 0 = .ok (.iload_n 1, 1) := by decide +kernel
theorem dRun_priceOf_1 : decode cRun_priceOf 1 = .ok (.lookupswitch 41 #[(19, 27), (27, 34)], 27) := by decide +kernel
theorem dRun_priceOf_28 : decode cRun_priceOf 28 = .ok (.aload_n 0, 1) := by decide +kernel
theorem dRun_priceOf_29 : decode cRun_priceOf 29 = .ok (.invokevirtual 158, 3) := by decide +kernel
theorem dRun_priceOf_32 : decode cRun_priceOf 32 = .ok (.goto 17, 3) := by decide +kernel
theorem dRun_priceOf_35 : decode cRun_priceOf 35 = .ok (.aload_n 0, 1) := by decide +kernel
theorem dRun_priceOf_36 : decode cRun_priceOf 36 = .ok (.invokevirtual 161, 3) := by decide +kernel
theorem dRun_priceOf_39 : decode cRun_priceOf 39 = .ok (.goto 10, 3) := by decide +kernel
theorem dRun_priceOf_42 : decode cRun_priceOf 42 = .ok (.getstatic 164, 3) := by decide +kernel
theorem dRun_priceOf_45 : decode cRun_priceOf 45 = .ok (.iload_n 1, 1) := by decide +kernel
theorem dRun_priceOf_46 : decode cRun_priceOf 46 = .ok (.invokestatic 154, 3) := by decide +kernel
theorem dRun_priceOf_49 : decode cRun_priceOf 49 = .ok (.ireturn, 1) := by decide +kernel
theorem dRun_compute_0 : decode cRun_compute 0 = .ok (.aload_n 0, 1) := by decide +kernel
theorem dRun_compute_1 : decode cRun_compute 1 = .ok (.getfield 14, 3) := by decide +kernel
theorem dRun_compute_4 : decode cRun_compute 4 = .ok (.invokevirtual 176, 3) := by decide +kernel
theorem dRun_compute_7 : decode cRun_compute 7 = .ok (.istore_n 2, 1) := by decide +kernel
theorem dRun_compute_8 : decode cRun_compute 8 = .ok (.aload_n 0, 1) := by decide +kernel
theorem dRun_compute_9 : decode cRun_compute 9 = .ok (.getfield 14, 3) := by decide +kernel
theorem dRun_compute_12 : decode cRun_compute 12 = .ok (.invokevirtual 176, 3) := by decide +kernel
theorem dRun_compute_15 : decode cRun_compute 15 = .ok (.istore_n 3, 1) := by decide +kernel
theorem dRun_compute_16 : decode cRun_compute 16 = .ok (.aload_n 0, 1) := by decide +kernel
theorem dRun_compute_17 : decode cRun_compute 17 = .ok (.getfield 14, 3) := by decide +kernel
theorem dRun_compute_20 : decode cRun_compute 20 = .ok (.iload_n 1, 1) := by decide +kernel
theorem dRun_compute_21 : decode cRun_compute 21 = .ok (.iload_n 3, 1) := by decide +kernel
theorem dRun_compute_22 : decode cRun_compute 22 = .ok (.iload_n 2, 1) := by decide +kernel
theorem dRun_compute_23 : decode cRun_compute 23 = .ok (.invokestatic 197, 3) := by decide +kernel
theorem dRun_compute_26 : decode cRun_compute 26 = .ok (.invokevirtual 173, 3) := by decide +kernel
theorem dRun_compute_29 : decode cRun_compute 29 = .ok (.return_, 1) := by decide +kernel
theorem gw6 : .selects RRun yRun_end yRun_end ∈ xG := List.mem_filter.mpr ⟨List.mem_of_getElem? (i := 6) (by decide +kernel), by decide +kernel⟩
theorem gw8 : .selects RRun yRun_storePrice yRun_storePrice ∈ xG := List.mem_filter.mpr ⟨List.mem_of_getElem? (i := 8) (by decide +kernel), by decide +kernel⟩
theorem gw10 : .selects RRun yRun_callPrice yRun_callPrice ∈ xG := List.mem_filter.mpr ⟨List.mem_of_getElem? (i := 10) (by decide +kernel), by decide +kernel⟩
theorem gw42 : .initialized RRun ∈ xG := List.mem_filter.mpr ⟨List.mem_of_getElem? (i := 42) (by decide +kernel), by decide +kernel⟩
theorem gw142 : .fieldLink RRun 35 "CallLedger$Run" "store" "LCallLedger$Store;" ∈ xG := List.mem_filter.mpr ⟨List.mem_of_getElem? (i := 142) (by decide +kernel), by decide +kernel⟩
theorem gw145 : .fieldLink RRun 14 "CallLedger$Run" "stack" "LCallLedger$Row;" ∈ xG := List.mem_filter.mpr ⟨List.mem_of_getElem? (i := 145) (by decide +kernel), by decide +kernel⟩
theorem gw151 : .fieldLink RRun 50 "CallLedger$Run" "account" "I" ∈ xG := List.mem_filter.mpr ⟨List.mem_of_getElem? (i := 151) (by decide +kernel), by decide +kernel⟩
theorem gw154 : .fieldLink RRun 56 "CallLedger$Run" "gas" "I" ∈ xG := List.mem_filter.mpr ⟨List.mem_of_getElem? (i := 154) (by decide +kernel), by decide +kernel⟩
theorem gw157 : .fieldLink RRun 65 "CallLedger$Run" "ending" "I" ∈ xG := List.mem_filter.mpr ⟨List.mem_of_getElem? (i := 157) (by decide +kernel), by decide +kernel⟩
theorem gw159 : .fieldLink RRun 68 "CallLedger$Run" "answer" "I" ∈ xG := List.mem_filter.mpr ⟨List.mem_of_getElem? (i := 159) (by decide +kernel), by decide +kernel⟩
theorem gw227 : .instanceMethod yRow_add ∈ xG := List.mem_filter.mpr ⟨List.mem_of_getElem? (i := 227) (by decide +kernel), by decide +kernel⟩
theorem gw228 : .selects RRow yRow_add yRow_add ∈ xG := List.mem_filter.mpr ⟨List.mem_of_getElem? (i := 228) (by decide +kernel), by decide +kernel⟩
theorem gw229 : .code yRow_add cRow_add 2 none ∈ xG := List.mem_filter.mpr ⟨List.mem_of_getElem? (i := 229) (by decide +kernel), by decide +kernel⟩
theorem gw231 : .instanceMethod yRow_size ∈ xG := List.mem_filter.mpr ⟨List.mem_of_getElem? (i := 231) (by decide +kernel), by decide +kernel⟩
theorem gw232 : .selects RRow yRow_size yRow_size ∈ xG := List.mem_filter.mpr ⟨List.mem_of_getElem? (i := 232) (by decide +kernel), by decide +kernel⟩
theorem gw233 : .code yRow_size cRow_size 1 (some .int) ∈ xG := List.mem_filter.mpr ⟨List.mem_of_getElem? (i := 233) (by decide +kernel), by decide +kernel⟩
theorem gw478 : .methodLink RRun 99 yRow_size ∈ xG := List.mem_filter.mpr ⟨List.mem_of_getElem? (i := 478) (by decide +kernel), by decide +kernel⟩
theorem gw493 : .methodLink RRun 117 yRun_end ∈ xG := List.mem_filter.mpr ⟨List.mem_of_getElem? (i := 493) (by decide +kernel), by decide +kernel⟩
theorem gw495 : .instanceMethod yRun_end ∈ xG := List.mem_filter.mpr ⟨List.mem_of_getElem? (i := 495) (by decide +kernel), by decide +kernel⟩
theorem gw496 : .code yRun_end cRun_end 3 none ∈ xG := List.mem_filter.mpr ⟨List.mem_of_getElem? (i := 496) (by decide +kernel), by decide +kernel⟩
theorem gw504 : .methodLink RRun 158 yRun_storePrice ∈ xG := List.mem_filter.mpr ⟨List.mem_of_getElem? (i := 504) (by decide +kernel), by decide +kernel⟩
theorem gw506 : .instanceMethod yRun_storePrice ∈ xG := List.mem_filter.mpr ⟨List.mem_of_getElem? (i := 506) (by decide +kernel), by decide +kernel⟩
theorem gw507 : .code yRun_storePrice cRun_storePrice 2 (some .int) ∈ xG := List.mem_filter.mpr ⟨List.mem_of_getElem? (i := 507) (by decide +kernel), by decide +kernel⟩
theorem gw508 : .methodLink RRun 167 yRow_below ∈ xG := List.mem_filter.mpr ⟨List.mem_of_getElem? (i := 508) (by decide +kernel), by decide +kernel⟩
theorem gw509 : .instanceMethod yRow_below ∈ xG := List.mem_filter.mpr ⟨List.mem_of_getElem? (i := 509) (by decide +kernel), by decide +kernel⟩
theorem gw510 : .selects RRow yRow_below yRow_below ∈ xG := List.mem_filter.mpr ⟨List.mem_of_getElem? (i := 510) (by decide +kernel), by decide +kernel⟩
theorem gw511 : .code yRow_below cRow_below 2 (some .int) ∈ xG := List.mem_filter.mpr ⟨List.mem_of_getElem? (i := 511) (by decide +kernel), by decide +kernel⟩
theorem gw516 : .methodLink RRun 170 ySto_read ∈ xG := List.mem_filter.mpr ⟨List.mem_of_getElem? (i := 516) (by decide +kernel), by decide +kernel⟩
theorem gw528 : .methodLink RRun 161 yRun_callPrice ∈ xG := List.mem_filter.mpr ⟨List.mem_of_getElem? (i := 528) (by decide +kernel), by decide +kernel⟩
theorem gw530 : .instanceMethod yRun_callPrice ∈ xG := List.mem_filter.mpr ⟨List.mem_of_getElem? (i := 530) (by decide +kernel), by decide +kernel⟩
theorem gw531 : .code yRun_callPrice cRun_callPrice 2 (some .int) ∈ xG := List.mem_filter.mpr ⟨List.mem_of_getElem? (i := 531) (by decide +kernel), by decide +kernel⟩
theorem gw533 : .methodLink RRun 154 yRun_entry ∈ xG := List.mem_filter.mpr ⟨List.mem_of_getElem? (i := 533) (by decide +kernel), by decide +kernel⟩
theorem gw534 : .static yRun_entry ∈ xG := List.mem_filter.mpr ⟨List.mem_of_getElem? (i := 534) (by decide +kernel), by decide +kernel⟩
theorem gw535 : .code yRun_entry cRun_entry 2 (some .int) ∈ xG := List.mem_filter.mpr ⟨List.mem_of_getElem? (i := 535) (by decide +kernel), by decide +kernel⟩
theorem gw554 : .methodLink RRun 173 yRow_add ∈ xG := List.mem_filter.mpr ⟨List.mem_of_getElem? (i := 554) (by decide +kernel), by decide +kernel⟩
theorem gw555 : .methodLink RRun 176 yRow_take ∈ xG := List.mem_filter.mpr ⟨List.mem_of_getElem? (i := 555) (by decide +kernel), by decide +kernel⟩
theorem gw556 : .instanceMethod yRow_take ∈ xG := List.mem_filter.mpr ⟨List.mem_of_getElem? (i := 556) (by decide +kernel), by decide +kernel⟩
theorem gw557 : .selects RRow yRow_take yRow_take ∈ xG := List.mem_filter.mpr ⟨List.mem_of_getElem? (i := 557) (by decide +kernel), by decide +kernel⟩
theorem gw558 : .code yRow_take cRow_take 1 (some .int) ∈ xG := List.mem_filter.mpr ⟨List.mem_of_getElem? (i := 558) (by decide +kernel), by decide +kernel⟩
theorem gw597 : .methodLink RRun 197 yRun_computed ∈ xG := List.mem_filter.mpr ⟨List.mem_of_getElem? (i := 597) (by decide +kernel), by decide +kernel⟩
theorem gw598 : .static yRun_computed ∈ xG := List.mem_filter.mpr ⟨List.mem_of_getElem? (i := 598) (by decide +kernel), by decide +kernel⟩
theorem gw599 : .code yRun_computed cRun_computed 3 (some .int) ∈ xG := List.mem_filter.mpr ⟨List.mem_of_getElem? (i := 599) (by decide +kernel), by decide +kernel⟩
set_option maxHeartbeats 4000000 in
set_option maxRecDepth 100000 in
theorem kRun_end (l : Launch) (dC : Nat → ClassId) (dI : Nat → Nat → Nat) (kI kJ kZ : ClassId) (r0 : Nat) (qc : Nat) (qb : Nat) (qs : Nat) (qk : Nat) (iv : Value) (rs : Nat) (ra : Nat) (rb : Nat) (cb : Int32) (kb : Int32) (ac : Nat) (cl : Int32) (vl : Int32) (gs : Nat) (pk : Nat) (en : Int32) (an : Int32) (ho : Int32) (nm : Int32)  :
    XM stX l yRun_end wRun_end { frames := 0, cells := 0, slots := 0, locals := 0 } (dC, dI) xCl (x_T kI kJ kZ) [(r0, .inr (3, [.ref qc, .ref qb, .ref qs, .ref qk, iv, .ref rs, .ref ra, .ref rb, .int cb, .int kb, .int (nI ac), .int cl, .int vl, .int (nI gs), .int (nI pk), .int en, .int an]))] [.ref r0, .int ho, .int nm] 0 0 x_eV (fun (r : Unit) (u : Unit) => True) (fun (u : Unit) => [(r0, .inr (3, [.ref qc, .ref qb, .ref qs, .ref qk, iv, .ref rs, .ref ra, .ref rb, .int cb, .int kb, .int (nI ac), .int cl, .int vl, .int (nI gs), .int (nI pk), .int ho, .int nm]))]) := by
  refine XM.ofV (cc := cRun_end) (maxL := 3) (by decide) rfl (Nat.le_of_ble_eq_true rfl) ?_
  intro p e s m below meth c A Q hx hb hr hml hown hts hlocks hin hA hK hP hD hX hS ls hl hret
  have hl : lv_has ls 3 [(0, .ref r0), (1, .int ho), (2, .int nm)] := hl
  refine lv_aload_n hx hb dRun_end_0 rfl (lv_at hl 0 rfl) ?_
  refine lv_iload_n hx hb dRun_end_1 rfl (lv_at hl 1 rfl) ?_
  refine va_put (D := (dC, dI)) (ci := 3) (v := .int ho) (ty := .int) (C := RRun) (T := TRun) (N := 17) hx hb hts (fun w h => List.mem_cons_of_mem _ (layRun w h)) tyRun tykRun nmRun hown hK hP hD hS 0 rfl rfl 15 (by decide) (hts (.fieldLink RRun 65 "CallLedger$Run" "ending" "I") (List.mem_cons_of_mem _ gw157)) (fun _ h9 => h9) rfl (by decide +kernel) rfl rfl (Nat.le_of_ble_eq_true rfl) dRun_end_2 (fun H locs hP hD hS => ?_)
  have hP : va_P (dC, dI) xCl [(r0, .inr (3, [.ref qc, .ref qb, .ref qs, .ref qk, iv, .ref rs, .ref ra, .ref rb, .int cb, .int kb, .int (nI ac), .int cl, .int vl, .int (nI gs), .int (nI pk), .int ho, .int an]))] H := hP
  have hD : va_D A [(r0, .inr (3, [.ref qc, .ref qb, .ref qs, .ref qk, iv, .ref rs, .ref ra, .ref rb, .int cb, .int kb, .int (nI ac), .int cl, .int vl, .int (nI gs), .int (nI pk), .int ho, .int an]))] := hD
  refine lv_aload_n hx hb dRun_end_5 rfl (lv_at hl 0 rfl) ?_
  refine lv_iload_n hx hb dRun_end_6 rfl (lv_at hl 2 rfl) ?_
  refine va_put (D := (dC, dI)) (ci := 3) (v := .int nm) (ty := .int) (C := RRun) (T := TRun) (N := 17) hx hb hts (fun w h => List.mem_cons_of_mem _ (layRun w h)) tyRun tykRun nmRun hown hK hP hD hS 0 rfl rfl 16 (by decide) (hts (.fieldLink RRun 68 "CallLedger$Run" "answer" "I") (List.mem_cons_of_mem _ gw159)) (fun _ h9 => h9) rfl (by decide +kernel) rfl rfl (Nat.le_of_ble_eq_true rfl) dRun_end_7 (fun H locs hP hD hS => ?_)
  have hP : va_P (dC, dI) xCl [(r0, .inr (3, [.ref qc, .ref qb, .ref qs, .ref qk, iv, .ref rs, .ref ra, .ref rb, .int cb, .int kb, .int (nI ac), .int cl, .int vl, .int (nI gs), .int (nI pk), .int ho, .int nm]))] H := hP
  have hD : va_D A [(r0, .inr (3, [.ref qc, .ref qb, .ref qs, .ref qk, iv, .ref rs, .ref ra, .ref rb, .int cb, .int kb, .int (nI ac), .int cl, .int vl, .int (nI gs), .int (nI pk), .int ho, .int nm]))] := hD
  exact hret  (()) _ _ _ (trivial) (hP.sub [0] rfl) (hD.sub [0] (by decide) rfl) hS dRun_end_10

set_option maxHeartbeats 4000000 in
set_option maxRecDepth 100000 in
theorem kRun_trap (l : Launch) (dC : Nat → ClassId) (dI : Nat → Nat → Nat) (kI kJ kZ : ClassId) (r0 : Nat) (qc : Nat) (qb : Nat) (qs : Nat) (qk : Nat) (iv : Value) (rs : Nat) (ra : Nat) (rb : Nat) (cb : Int32) (kb : Int32) (ac : Nat) (cl : Int32) (vl : Int32) (gs : Nat) (pk : Nat) (en : Int32) (an : Int32) (ho : Int32)  :
    XM stX l yRun_trap wRun_trap { frames := 1, cells := 0, slots := 0, locals := 22 } (dC, dI) xCl (x_T kI kJ kZ) [(r0, .inr (3, [.ref qc, .ref qb, .ref qs, .ref qk, iv, .ref rs, .ref ra, .ref rb, .int cb, .int kb, .int (nI ac), .int cl, .int vl, .int (nI gs), .int (nI pk), .int en, .int an]))] [.ref r0, .int ho] 0 0 x_eV (fun (r : Unit) (u : Unit) => True) (fun (u : Unit) => [(r0, .inr (3, [.ref qc, .ref qb, .ref qs, .ref qk, iv, .ref rs, .ref ra, .ref rb, .int cb, .int kb, .int (nI ac), .int cl, .int vl, .int (nI 0), .int (nI pk), .int ho, .int 0]))]) := by
  refine XM.ofV (cc := cRun_trap) (maxL := 2) (by decide) rfl (Nat.le_of_ble_eq_true rfl) ?_
  intro p e s m below meth c A Q hx hb hr hml hown hts hlocks hin hA hK hP hD hX hS ls hl hret
  have hl : lv_has ls 2 [(0, .ref r0), (1, .int ho)] := hl
  refine lv_aload_n hx hb dRun_trap_0 rfl (lv_at hl 0 rfl) ?_
  refine lv_iconst (v := 0) hx hb dRun_trap_1 (by decide) ?_
  refine va_put (D := (dC, dI)) (ci := 3) (v := .int 0) (ty := .int) (C := RRun) (T := TRun) (N := 17) hx hb hts (fun w h => List.mem_cons_of_mem _ (layRun w h)) tyRun tykRun nmRun hown hK hP hD hS 0 rfl rfl 13 (by decide) (hts (.fieldLink RRun 56 "CallLedger$Run" "gas" "I") (List.mem_cons_of_mem _ gw154)) (fun _ h9 => h9) rfl (by decide +kernel) rfl rfl (Nat.le_of_ble_eq_true rfl) dRun_trap_2 (fun H locs hP hD hS => ?_)
  have hP : va_P (dC, dI) xCl [(r0, .inr (3, [.ref qc, .ref qb, .ref qs, .ref qk, iv, .ref rs, .ref ra, .ref rb, .int cb, .int kb, .int (nI ac), .int cl, .int vl, .int 0, .int (nI pk), .int en, .int an]))] H := hP
  have hD : va_D A [(r0, .inr (3, [.ref qc, .ref qb, .ref qs, .ref qk, iv, .ref rs, .ref ra, .ref rb, .int cb, .int kb, .int (nI ac), .int cl, .int vl, .int 0, .int (nI pk), .int en, .int an]))] := hD
  refine lv_aload_n hx hb dRun_trap_5 rfl (lv_at hl 0 rfl) ?_
  refine lv_iload_n hx hb dRun_trap_6 rfl (lv_at hl 1 rfl) ?_
  refine lv_iconst (v := 0) hx hb dRun_trap_7 (by decide) ?_
  refine XM.callVv (As := [.int ho, .int 0]) (rest := []) (wr := []) stX_ok ⟨hx, hb, hml, hown, hts⟩ (kRun_end l dC dI kI kJ kZ r0 qc qb qs qk iv rs ra rb cb kb ac cl vl 0 pk en an ho 0 ) (cwV 2 hts (x_gV gw493 gw495 gw6 gw42 gw496) rfl rfl rfl (by decide +kernel) ⟨Nat.le_of_ble_eq_true rfl, Nat.le_of_ble_eq_true rfl⟩) hK hP hD hS hA hX [0] [] rfl rfl (by decide) (by decide) (by decide) rfl rfl rfl rfl hl.1 (Nat.le_of_ble_eq_true rfl) dRun_trap_8 ⟨Nat.le_of_ble_eq_true rfl, Nat.le_of_ble_eq_true rfl⟩ (fun u_1 H locs hw hP hD hS => ?_)
  have hP : va_P (dC, dI) xCl [(r0, .inr (3, [.ref qc, .ref qb, .ref qs, .ref qk, iv, .ref rs, .ref ra, .ref rb, .int cb, .int kb, .int (nI ac), .int cl, .int vl, .int (nI 0), .int (nI pk), .int ho, .int 0]))] H := hP
  have hD : va_D A [(r0, .inr (3, [.ref qc, .ref qb, .ref qs, .ref qk, iv, .ref rs, .ref ra, .ref rb, .int cb, .int kb, .int (nI ac), .int cl, .int vl, .int (nI 0), .int (nI pk), .int ho, .int 0]))] := hD
  exact hret  (()) _ _ _ (trivial) (hP.sub [0] rfl) (hD.sub [0] (by decide) rfl) hS dRun_trap_11

set_option maxHeartbeats 4000000 in
set_option maxRecDepth 100000 in
theorem kRun_entry (l : Launch) (dC : Nat → ClassId) (dI : Nat → Nat → Nat) (kI kJ kZ : ClassId) (t : Nat) (f : Nat → Int32) (op : Nat) (hop : op < 30) :
    XM (stT t f) l yRun_entry wRun_entry { frames := 0, cells := 0, slots := 0, locals := 0 } (dC, dI) xCl (x_T kI kJ kZ) [] [.ref t, .int (nI op)] 0 0 x_eI (fun (r : Int32) (u : Unit) => r = f op) (fun (u : Unit) => []) := by
  refine XM.ofI (cc := cRun_entry) (maxL := 2) (by decide) rfl (Nat.le_of_ble_eq_true rfl) ?_
  intro p e s m below meth c A Q hx hb hr hml hown hts hlocks hin hA hK hP hD hX hS ls hl hret
  have hl : lv_has ls 2 [(0, .ref t), (1, .int (nI op))] := hl
  refine lv_iload_n hx hb dRun_entry_0 rfl (lv_at hl 1 rfl) ?_
  refine lv_if_lt (tgt := 16) hx hb dRun_entry_1 (by decide) (fun c1 => ?_) (fun c1 => ?_)
  · have c1 : op < 0 := (nI_ltI (a := op) (b := 0) (by omega) (by omega)).mp c1
    exfalso; omega
  · have c1 : ¬ (op < 0) := fun z9 => c1 ((nI_ltI (a := op) (b := 0) (by omega) (by omega)).mpr z9)
    refine lv_iload_n hx hb dRun_entry_4 rfl (lv_at hl 1 rfl) ?_
    refine lv_aload_n hx hb dRun_entry_5 rfl (lv_at hl 0 rfl) ?_
    refine va_tlen (v := nI 30) hx hb hX.2 hS rfl dRun_entry_6 ?_
    refine lv_icmp_ge (tgt := 16) hx hb dRun_entry_7 (by decide) (fun c7 => ?_) (fun c7 => ?_)
    · have c7 : 30 ≤ op := (nI_leI (a := 30) (b := op) (by omega) (by omega)).mp c7
      exfalso; omega
    · have c7 : ¬ (30 ≤ op) := fun z9 => c7 ((nI_leI (a := 30) (b := op) (by omega) (by omega)).mpr z9)
      refine lv_aload_n hx hb dRun_entry_10 rfl (lv_at hl 0 rfl) ?_
      refine lv_iload_n hx hb dRun_entry_11 rfl (lv_at hl 1 rfl) ?_
      refine va_ti (v := .int (f op)) hx hb hX.2 hS (vp_in_nI hop (by omega)) (by rw [nI_clamp (by omega)]) dRun_entry_12 ?_
      refine lv_goto (tgt := 17) hx hb dRun_entry_13 (by decide) ?_
      exact hret (f op) (()) _ _ _ (rfl) (hP.sub [] rfl) (hD.sub [] (by decide) rfl) hS dRun_entry_17

set_option maxHeartbeats 4000000 in
set_option maxRecDepth 100000 in
theorem kRun_needOf (l : Launch) (dC : Nat → ClassId) (dI : Nat → Nat → Nat) (kI kJ kZ : ClassId) (r0 : Nat) (qc : Nat) (qb : Nat) (qs : Nat) (qk : Nat) (iv : Value) (rs : Nat) (ra : Nat) (rb : Nat) (cb : Int32) (kb : Int32) (ac : Nat) (cl : Int32) (vl : Int32) (gs : Nat) (pk : Nat) (en : Int32) (an : Int32) (op : Nat) (x : Int32) (hop : op < 30) :
    XM stX l yRun_needOf wRun_needOf { frames := 1, cells := 0, slots := 0, locals := 21 } (dC, dI) xCl (x_T kI kJ kZ) [(r0, .inr (3, [.ref qc, .ref qb, .ref qs, .ref qk, iv, .ref rs, .ref ra, .ref rb, .int cb, .int kb, .int (nI ac), .int cl, .int vl, .int (nI gs), .int (nI pk), .int en, .int an]))] [.ref r0, .int (nI op), .int x] 0 0 x_eI (fun (r : Int32) (u : Unit) => r = if op = 3 ∨ op = 4 ∨ op = 27 then fNeed op + x else fNeed op) (fun (u : Unit) => [(r0, .inr (3, [.ref qc, .ref qb, .ref qs, .ref qk, iv, .ref rs, .ref ra, .ref rb, .int cb, .int kb, .int (nI ac), .int cl, .int vl, .int (nI gs), .int (nI pk), .int en, .int an]))]) := by
  refine XM.ofI (cc := cRun_needOf) (maxL := 5) (by decide) rfl (Nat.le_of_ble_eq_true rfl) ?_
  intro p e s m below meth c A Q hx hb hr hml hown hts hlocks hin hA hK hP hD hX hS ls hl hret
  have hl : lv_has ls 5 [(0, .ref r0), (1, .int (nI op)), (2, .int x)] := hl
  obtain ⟨tNEEDS, hZNEEDS, hTNEEDS⟩ := hX.2.2.1
  refine va_getsN hx hb hZNEEDS hS hown (hX.nest (w := .fieldLinkNest RRun 151 "CallLedger" "NEEDS" "[I" "CallLedger") (by decide +kernel)) (fun _ h9 => h9) dRun_needOf_0 ?_
  refine lv_iload_n hx hb dRun_needOf_3 rfl (lv_at hl 1 rfl) ?_
  refine XM.callSi (As := [.ref tNEEDS, .int (nI op)]) (rest := []) (wr := [(r0, .inr (3, [.ref qc, .ref qb, .ref qs, .ref qk, iv, .ref rs, .ref ra, .ref rb, .int cb, .int kb, .int (nI ac), .int cl, .int vl, .int (nI gs), .int (nI pk), .int en, .int an]))]) (stT_ok tNEEDS fNeed) ⟨hx, hb, hml, hown, hts⟩ (kRun_entry l dC dI kI kJ kZ tNEEDS fNeed op (by first | assumption | omega)) (va_cwS 2 hts (x_gS gw533 gw534 gw42 gw535) rfl rfl rfl (by decide +kernel) ⟨Nat.le_of_ble_eq_true rfl, Nat.le_of_ble_eq_true rfl⟩) hK hP hD hS hA ⟨hX, hTNEEDS⟩ [] [0] rfl rfl (by decide) (by decide) (by decide) rfl rfl hl.1 (Nat.le_of_ble_eq_true rfl) dRun_needOf_4 ⟨Nat.le_of_ble_eq_true rfl, Nat.le_of_ble_eq_true rfl⟩ (fun r_2 u_1 H locs hw hP hD hS => ?_)
  obtain rfl := hw
  have hP : va_P (dC, dI) xCl [(r0, .inr (3, [.ref qc, .ref qb, .ref qs, .ref qk, iv, .ref rs, .ref ra, .ref rb, .int cb, .int kb, .int (nI ac), .int cl, .int vl, .int (nI gs), .int (nI pk), .int en, .int an]))] H := hP
  have hD : va_D A [(r0, .inr (3, [.ref qc, .ref qb, .ref qs, .ref qk, iv, .ref rs, .ref ra, .ref rb, .int cb, .int kb, .int (nI ac), .int cl, .int vl, .int (nI gs), .int (nI pk), .int en, .int an]))] := hD
  refine lv_istore_n (lv' := [(3, .int (fNeed op)), (0, .ref r0), (1, .int (nI op)), (2, .int x)]) hx hb dRun_needOf_7 rfl hl (by decide) rfl (fun ls hl => ?_)
  refine lv_iload_n hx hb dRun_needOf_8 rfl (lv_at hl 2 rfl) ?_
  refine lv_iconst (v := 3) hx hb dRun_needOf_9 (by decide) ?_
  refine lv_icmp_eq (tgt := 24) hx hb dRun_needOf_10 (by decide) (fun c10 => ?_) (fun c10 => ?_)
  · have c10 : op = 3 := (nI_eq (a := op) (b := 3) (by omega) (by omega)).mp c10
    refine lv_iconst (v := 1) hx hb dRun_needOf_24 (by decide) ?_
    refine lv_goto (tgt := 29) hx hb dRun_needOf_25 (by decide) ?_
    refine lv_istore (lv' := [(4, .int 1), (3, .int (fNeed op)), (0, .ref r0), (1, .int (nI op)), (2, .int x)]) hx hb dRun_needOf_29 hl (by decide) rfl (fun ls hl => ?_)
    refine lv_iload hx hb dRun_needOf_31 (lv_at hl 0 rfl) ?_
    refine lv_if_eq (tgt := 42) hx hb dRun_needOf_33 (by decide) (fun c33 => ?_) (fun c33 => ?_)
    · exact absurd c33 (by decide)
    · refine lv_iload_n hx hb dRun_needOf_36 rfl (lv_at hl 1 rfl) ?_
      refine lv_iload_n hx hb dRun_needOf_37 rfl (lv_at hl 4 rfl) ?_
      refine lv_iadd hx hb dRun_needOf_38 ?_
      refine lv_goto (tgt := 43) hx hb dRun_needOf_39 (by decide) ?_
      exact hret ((fNeed op) + x) (()) _ _ _ (by first | (rw [if_pos (by omega)]; done) | (rw [if_neg (by omega)]; done)) (hP.sub [0] rfl) (hD.sub [0] (by decide) rfl) hS dRun_needOf_43
  · have c10 : ¬ (op = 3) := fun z9 => c10 ((nI_eq (a := op) (b := 3) (by omega) (by omega)).mpr z9)
    refine lv_iload_n hx hb dRun_needOf_13 rfl (lv_at hl 2 rfl) ?_
    refine lv_iconst (v := 4) hx hb dRun_needOf_14 (by decide) ?_
    refine lv_icmp_eq (tgt := 24) hx hb dRun_needOf_15 (by decide) (fun c15 => ?_) (fun c15 => ?_)
    · have c15 : op = 4 := (nI_eq (a := op) (b := 4) (by omega) (by omega)).mp c15
      refine lv_iconst (v := 1) hx hb dRun_needOf_24 (by decide) ?_
      refine lv_goto (tgt := 29) hx hb dRun_needOf_25 (by decide) ?_
      refine lv_istore (lv' := [(4, .int 1), (3, .int (fNeed op)), (0, .ref r0), (1, .int (nI op)), (2, .int x)]) hx hb dRun_needOf_29 hl (by decide) rfl (fun ls hl => ?_)
      refine lv_iload hx hb dRun_needOf_31 (lv_at hl 0 rfl) ?_
      refine lv_if_eq (tgt := 42) hx hb dRun_needOf_33 (by decide) (fun c33 => ?_) (fun c33 => ?_)
      · exact absurd c33 (by decide)
      · refine lv_iload_n hx hb dRun_needOf_36 rfl (lv_at hl 1 rfl) ?_
        refine lv_iload_n hx hb dRun_needOf_37 rfl (lv_at hl 4 rfl) ?_
        refine lv_iadd hx hb dRun_needOf_38 ?_
        refine lv_goto (tgt := 43) hx hb dRun_needOf_39 (by decide) ?_
        exact hret ((fNeed op) + x) (()) _ _ _ (by first | (rw [if_pos (by omega)]; done) | (rw [if_neg (by omega)]; done)) (hP.sub [0] rfl) (hD.sub [0] (by decide) rfl) hS dRun_needOf_43
    · have c15 : ¬ (op = 4) := fun z9 => c15 ((nI_eq (a := op) (b := 4) (by omega) (by omega)).mpr z9)
      refine lv_iload_n hx hb dRun_needOf_18 rfl (lv_at hl 2 rfl) ?_
      refine lv_bipush (v := 27) hx hb dRun_needOf_19 (by decide) ?_
      refine lv_icmp_ne (tgt := 28) hx hb dRun_needOf_21 (by decide) (fun c21 => ?_) (fun c21 => ?_)
      · have c21 : ¬ (op = 27) := fun z9 => c21 ((nI_eq (a := op) (b := 27) (by omega) (by omega)).mpr z9)
        refine lv_iconst (v := 0) hx hb dRun_needOf_28 (by decide) ?_
        refine lv_istore (lv' := [(4, .int 0), (3, .int (fNeed op)), (0, .ref r0), (1, .int (nI op)), (2, .int x)]) hx hb dRun_needOf_29 hl (by decide) rfl (fun ls hl => ?_)
        refine lv_iload hx hb dRun_needOf_31 (lv_at hl 0 rfl) ?_
        refine lv_if_eq (tgt := 42) hx hb dRun_needOf_33 (by decide) (fun c33 => ?_) (fun c33 => ?_)
        · refine lv_iload_n hx hb dRun_needOf_42 rfl (lv_at hl 1 rfl) ?_
          exact hret (fNeed op) (()) _ _ _ (by first | (rw [if_pos (by omega)]; done) | (rw [if_neg (by omega)]; done)) (hP.sub [0] rfl) (hD.sub [0] (by decide) rfl) hS dRun_needOf_43
        · exact absurd c33 (by decide)
      · have c21 : op = 27 := (nI_eq (a := op) (b := 27) (by omega) (by omega)).mp c21
        refine lv_iconst (v := 1) hx hb dRun_needOf_24 (by decide) ?_
        refine lv_goto (tgt := 29) hx hb dRun_needOf_25 (by decide) ?_
        refine lv_istore (lv' := [(4, .int 1), (3, .int (fNeed op)), (0, .ref r0), (1, .int (nI op)), (2, .int x)]) hx hb dRun_needOf_29 hl (by decide) rfl (fun ls hl => ?_)
        refine lv_iload hx hb dRun_needOf_31 (lv_at hl 0 rfl) ?_
        refine lv_if_eq (tgt := 42) hx hb dRun_needOf_33 (by decide) (fun c33 => ?_) (fun c33 => ?_)
        · exact absurd c33 (by decide)
        · refine lv_iload_n hx hb dRun_needOf_36 rfl (lv_at hl 1 rfl) ?_
          refine lv_iload_n hx hb dRun_needOf_37 rfl (lv_at hl 4 rfl) ?_
          refine lv_iadd hx hb dRun_needOf_38 ?_
          refine lv_goto (tgt := 43) hx hb dRun_needOf_39 (by decide) ?_
          exact hret ((fNeed op) + x) (()) _ _ _ (by first | (rw [if_pos (by omega)]; done) | (rw [if_neg (by omega)]; done)) (hP.sub [0] rfl) (hD.sub [0] (by decide) rfl) hS dRun_needOf_43

set_option maxHeartbeats 4000000 in
set_option maxRecDepth 100000 in
theorem kRun_pushes (l : Launch) (dC : Nat → ClassId) (dI : Nat → Nat → Nat) (kI kJ kZ : ClassId) (op : Nat) (hop : op < 30) :
    XM stX l yRun_pushesMoreThanItPops wRun_pushesMoreThanItPops { frames := 0, cells := 0, slots := 0, locals := 0 } (dC, dI) xCl (x_T kI kJ kZ) [] [.int (nI op)] 0 0 x_eI (fun (r : Int32) (u : Unit) => r = x_b (xPush op)) (fun (u : Unit) => []) := by
  refine XM.ofZ (cc := cRun_pushesMoreThanItPops) (maxL := 1) (by decide) rfl (Nat.le_of_ble_eq_true rfl) ?_
  intro p e s m below meth c A Q hx hb hr hml hown hts hlocks hin hA hK hP hD hX hS ls hl hret
  have hl : lv_has ls 1 [(0, .int (nI op))] := hl
  rcases (show op = 0 ∨ op = 1 ∨ op = 2 ∨ op = 3 ∨ op = 4 ∨ op = 5 ∨ op = 6 ∨ op = 7 ∨ op = 8 ∨ op = 9 ∨ op = 10 ∨ op = 11 ∨ op = 12 ∨ op = 13 ∨ op = 14 ∨ op = 15 ∨ op = 16 ∨ op = 17 ∨ op = 18 ∨ op = 19 ∨ op = 20 ∨ op = 21 ∨ op = 22 ∨ op = 23 ∨ op = 24 ∨ op = 25 ∨ op = 26 ∨ op = 27 ∨ op = 28 ∨ op = 29 by omega) with rfl | rfl | rfl | rfl | rfl | rfl | rfl | rfl | rfl | rfl | rfl | rfl | rfl | rfl | rfl | rfl | rfl | rfl | rfl | rfl | rfl | rfl | rfl | rfl | rfl | rfl | rfl | rfl | rfl | rfl
  · refine lv_iload_n hx hb dRun_pushesMoreThanItPops_0 rfl (lv_at hl 0 rfl) ?_
    refine lv_lookup (tgt := 64) (off := 63) hx hb dRun_pushesMoreThanItPops_1 (by decide) (by decide) (by decide) ?_
    refine lv_iconst (v := 0) hx hb dRun_pushesMoreThanItPops_64 (by decide) ?_
    exact hret 0 (())  (rfl) _ _ _ (rfl) (hP.sub [] rfl) (hD.sub [] (by decide) rfl) hS dRun_pushesMoreThanItPops_65
  · refine lv_iload_n hx hb dRun_pushesMoreThanItPops_0 rfl (lv_at hl 0 rfl) ?_
    refine lv_lookup (tgt := 60) (off := 59) hx hb dRun_pushesMoreThanItPops_1 (by decide) (by decide) (by decide) ?_
    refine lv_iconst (v := 1) hx hb dRun_pushesMoreThanItPops_60 (by decide) ?_
    refine lv_goto (tgt := 65) hx hb dRun_pushesMoreThanItPops_61 (by decide) ?_
    exact hret 1 (())  (rfl) _ _ _ (rfl) (hP.sub [] rfl) (hD.sub [] (by decide) rfl) hS dRun_pushesMoreThanItPops_65
  · refine lv_iload_n hx hb dRun_pushesMoreThanItPops_0 rfl (lv_at hl 0 rfl) ?_
    refine lv_lookup (tgt := 64) (off := 63) hx hb dRun_pushesMoreThanItPops_1 (by decide) (by decide) (by decide) ?_
    refine lv_iconst (v := 0) hx hb dRun_pushesMoreThanItPops_64 (by decide) ?_
    exact hret 0 (())  (rfl) _ _ _ (rfl) (hP.sub [] rfl) (hD.sub [] (by decide) rfl) hS dRun_pushesMoreThanItPops_65
  · refine lv_iload_n hx hb dRun_pushesMoreThanItPops_0 rfl (lv_at hl 0 rfl) ?_
    refine lv_lookup (tgt := 60) (off := 59) hx hb dRun_pushesMoreThanItPops_1 (by decide) (by decide) (by decide) ?_
    refine lv_iconst (v := 1) hx hb dRun_pushesMoreThanItPops_60 (by decide) ?_
    refine lv_goto (tgt := 65) hx hb dRun_pushesMoreThanItPops_61 (by decide) ?_
    exact hret 1 (())  (rfl) _ _ _ (rfl) (hP.sub [] rfl) (hD.sub [] (by decide) rfl) hS dRun_pushesMoreThanItPops_65
  · refine lv_iload_n hx hb dRun_pushesMoreThanItPops_0 rfl (lv_at hl 0 rfl) ?_
    refine lv_lookup (tgt := 64) (off := 63) hx hb dRun_pushesMoreThanItPops_1 (by decide) (by decide) (by decide) ?_
    refine lv_iconst (v := 0) hx hb dRun_pushesMoreThanItPops_64 (by decide) ?_
    exact hret 0 (())  (rfl) _ _ _ (rfl) (hP.sub [] rfl) (hD.sub [] (by decide) rfl) hS dRun_pushesMoreThanItPops_65
  · refine lv_iload_n hx hb dRun_pushesMoreThanItPops_0 rfl (lv_at hl 0 rfl) ?_
    refine lv_lookup (tgt := 64) (off := 63) hx hb dRun_pushesMoreThanItPops_1 (by decide) (by decide) (by decide) ?_
    refine lv_iconst (v := 0) hx hb dRun_pushesMoreThanItPops_64 (by decide) ?_
    exact hret 0 (())  (rfl) _ _ _ (rfl) (hP.sub [] rfl) (hD.sub [] (by decide) rfl) hS dRun_pushesMoreThanItPops_65
  · refine lv_iload_n hx hb dRun_pushesMoreThanItPops_0 rfl (lv_at hl 0 rfl) ?_
    refine lv_lookup (tgt := 64) (off := 63) hx hb dRun_pushesMoreThanItPops_1 (by decide) (by decide) (by decide) ?_
    refine lv_iconst (v := 0) hx hb dRun_pushesMoreThanItPops_64 (by decide) ?_
    exact hret 0 (())  (rfl) _ _ _ (rfl) (hP.sub [] rfl) (hD.sub [] (by decide) rfl) hS dRun_pushesMoreThanItPops_65
  · refine lv_iload_n hx hb dRun_pushesMoreThanItPops_0 rfl (lv_at hl 0 rfl) ?_
    refine lv_lookup (tgt := 64) (off := 63) hx hb dRun_pushesMoreThanItPops_1 (by decide) (by decide) (by decide) ?_
    refine lv_iconst (v := 0) hx hb dRun_pushesMoreThanItPops_64 (by decide) ?_
    exact hret 0 (())  (rfl) _ _ _ (rfl) (hP.sub [] rfl) (hD.sub [] (by decide) rfl) hS dRun_pushesMoreThanItPops_65
  · refine lv_iload_n hx hb dRun_pushesMoreThanItPops_0 rfl (lv_at hl 0 rfl) ?_
    refine lv_lookup (tgt := 64) (off := 63) hx hb dRun_pushesMoreThanItPops_1 (by decide) (by decide) (by decide) ?_
    refine lv_iconst (v := 0) hx hb dRun_pushesMoreThanItPops_64 (by decide) ?_
    exact hret 0 (())  (rfl) _ _ _ (rfl) (hP.sub [] rfl) (hD.sub [] (by decide) rfl) hS dRun_pushesMoreThanItPops_65
  · refine lv_iload_n hx hb dRun_pushesMoreThanItPops_0 rfl (lv_at hl 0 rfl) ?_
    refine lv_lookup (tgt := 64) (off := 63) hx hb dRun_pushesMoreThanItPops_1 (by decide) (by decide) (by decide) ?_
    refine lv_iconst (v := 0) hx hb dRun_pushesMoreThanItPops_64 (by decide) ?_
    exact hret 0 (())  (rfl) _ _ _ (rfl) (hP.sub [] rfl) (hD.sub [] (by decide) rfl) hS dRun_pushesMoreThanItPops_65
  · refine lv_iload_n hx hb dRun_pushesMoreThanItPops_0 rfl (lv_at hl 0 rfl) ?_
    refine lv_lookup (tgt := 64) (off := 63) hx hb dRun_pushesMoreThanItPops_1 (by decide) (by decide) (by decide) ?_
    refine lv_iconst (v := 0) hx hb dRun_pushesMoreThanItPops_64 (by decide) ?_
    exact hret 0 (())  (rfl) _ _ _ (rfl) (hP.sub [] rfl) (hD.sub [] (by decide) rfl) hS dRun_pushesMoreThanItPops_65
  · refine lv_iload_n hx hb dRun_pushesMoreThanItPops_0 rfl (lv_at hl 0 rfl) ?_
    refine lv_lookup (tgt := 64) (off := 63) hx hb dRun_pushesMoreThanItPops_1 (by decide) (by decide) (by decide) ?_
    refine lv_iconst (v := 0) hx hb dRun_pushesMoreThanItPops_64 (by decide) ?_
    exact hret 0 (())  (rfl) _ _ _ (rfl) (hP.sub [] rfl) (hD.sub [] (by decide) rfl) hS dRun_pushesMoreThanItPops_65
  · refine lv_iload_n hx hb dRun_pushesMoreThanItPops_0 rfl (lv_at hl 0 rfl) ?_
    refine lv_lookup (tgt := 64) (off := 63) hx hb dRun_pushesMoreThanItPops_1 (by decide) (by decide) (by decide) ?_
    refine lv_iconst (v := 0) hx hb dRun_pushesMoreThanItPops_64 (by decide) ?_
    exact hret 0 (())  (rfl) _ _ _ (rfl) (hP.sub [] rfl) (hD.sub [] (by decide) rfl) hS dRun_pushesMoreThanItPops_65
  · refine lv_iload_n hx hb dRun_pushesMoreThanItPops_0 rfl (lv_at hl 0 rfl) ?_
    refine lv_lookup (tgt := 64) (off := 63) hx hb dRun_pushesMoreThanItPops_1 (by decide) (by decide) (by decide) ?_
    refine lv_iconst (v := 0) hx hb dRun_pushesMoreThanItPops_64 (by decide) ?_
    exact hret 0 (())  (rfl) _ _ _ (rfl) (hP.sub [] rfl) (hD.sub [] (by decide) rfl) hS dRun_pushesMoreThanItPops_65
  · refine lv_iload_n hx hb dRun_pushesMoreThanItPops_0 rfl (lv_at hl 0 rfl) ?_
    refine lv_lookup (tgt := 64) (off := 63) hx hb dRun_pushesMoreThanItPops_1 (by decide) (by decide) (by decide) ?_
    refine lv_iconst (v := 0) hx hb dRun_pushesMoreThanItPops_64 (by decide) ?_
    exact hret 0 (())  (rfl) _ _ _ (rfl) (hP.sub [] rfl) (hD.sub [] (by decide) rfl) hS dRun_pushesMoreThanItPops_65
  · refine lv_iload_n hx hb dRun_pushesMoreThanItPops_0 rfl (lv_at hl 0 rfl) ?_
    refine lv_lookup (tgt := 64) (off := 63) hx hb dRun_pushesMoreThanItPops_1 (by decide) (by decide) (by decide) ?_
    refine lv_iconst (v := 0) hx hb dRun_pushesMoreThanItPops_64 (by decide) ?_
    exact hret 0 (())  (rfl) _ _ _ (rfl) (hP.sub [] rfl) (hD.sub [] (by decide) rfl) hS dRun_pushesMoreThanItPops_65
  · refine lv_iload_n hx hb dRun_pushesMoreThanItPops_0 rfl (lv_at hl 0 rfl) ?_
    refine lv_lookup (tgt := 64) (off := 63) hx hb dRun_pushesMoreThanItPops_1 (by decide) (by decide) (by decide) ?_
    refine lv_iconst (v := 0) hx hb dRun_pushesMoreThanItPops_64 (by decide) ?_
    exact hret 0 (())  (rfl) _ _ _ (rfl) (hP.sub [] rfl) (hD.sub [] (by decide) rfl) hS dRun_pushesMoreThanItPops_65
  · refine lv_iload_n hx hb dRun_pushesMoreThanItPops_0 rfl (lv_at hl 0 rfl) ?_
    refine lv_lookup (tgt := 64) (off := 63) hx hb dRun_pushesMoreThanItPops_1 (by decide) (by decide) (by decide) ?_
    refine lv_iconst (v := 0) hx hb dRun_pushesMoreThanItPops_64 (by decide) ?_
    exact hret 0 (())  (rfl) _ _ _ (rfl) (hP.sub [] rfl) (hD.sub [] (by decide) rfl) hS dRun_pushesMoreThanItPops_65
  · refine lv_iload_n hx hb dRun_pushesMoreThanItPops_0 rfl (lv_at hl 0 rfl) ?_
    refine lv_lookup (tgt := 64) (off := 63) hx hb dRun_pushesMoreThanItPops_1 (by decide) (by decide) (by decide) ?_
    refine lv_iconst (v := 0) hx hb dRun_pushesMoreThanItPops_64 (by decide) ?_
    exact hret 0 (())  (rfl) _ _ _ (rfl) (hP.sub [] rfl) (hD.sub [] (by decide) rfl) hS dRun_pushesMoreThanItPops_65
  · refine lv_iload_n hx hb dRun_pushesMoreThanItPops_0 rfl (lv_at hl 0 rfl) ?_
    refine lv_lookup (tgt := 64) (off := 63) hx hb dRun_pushesMoreThanItPops_1 (by decide) (by decide) (by decide) ?_
    refine lv_iconst (v := 0) hx hb dRun_pushesMoreThanItPops_64 (by decide) ?_
    exact hret 0 (())  (rfl) _ _ _ (rfl) (hP.sub [] rfl) (hD.sub [] (by decide) rfl) hS dRun_pushesMoreThanItPops_65
  · refine lv_iload_n hx hb dRun_pushesMoreThanItPops_0 rfl (lv_at hl 0 rfl) ?_
    refine lv_lookup (tgt := 64) (off := 63) hx hb dRun_pushesMoreThanItPops_1 (by decide) (by decide) (by decide) ?_
    refine lv_iconst (v := 0) hx hb dRun_pushesMoreThanItPops_64 (by decide) ?_
    exact hret 0 (())  (rfl) _ _ _ (rfl) (hP.sub [] rfl) (hD.sub [] (by decide) rfl) hS dRun_pushesMoreThanItPops_65
  · refine lv_iload_n hx hb dRun_pushesMoreThanItPops_0 rfl (lv_at hl 0 rfl) ?_
    refine lv_lookup (tgt := 60) (off := 59) hx hb dRun_pushesMoreThanItPops_1 (by decide) (by decide) (by decide) ?_
    refine lv_iconst (v := 1) hx hb dRun_pushesMoreThanItPops_60 (by decide) ?_
    refine lv_goto (tgt := 65) hx hb dRun_pushesMoreThanItPops_61 (by decide) ?_
    exact hret 1 (())  (rfl) _ _ _ (rfl) (hP.sub [] rfl) (hD.sub [] (by decide) rfl) hS dRun_pushesMoreThanItPops_65
  · refine lv_iload_n hx hb dRun_pushesMoreThanItPops_0 rfl (lv_at hl 0 rfl) ?_
    refine lv_lookup (tgt := 60) (off := 59) hx hb dRun_pushesMoreThanItPops_1 (by decide) (by decide) (by decide) ?_
    refine lv_iconst (v := 1) hx hb dRun_pushesMoreThanItPops_60 (by decide) ?_
    refine lv_goto (tgt := 65) hx hb dRun_pushesMoreThanItPops_61 (by decide) ?_
    exact hret 1 (())  (rfl) _ _ _ (rfl) (hP.sub [] rfl) (hD.sub [] (by decide) rfl) hS dRun_pushesMoreThanItPops_65
  · refine lv_iload_n hx hb dRun_pushesMoreThanItPops_0 rfl (lv_at hl 0 rfl) ?_
    refine lv_lookup (tgt := 60) (off := 59) hx hb dRun_pushesMoreThanItPops_1 (by decide) (by decide) (by decide) ?_
    refine lv_iconst (v := 1) hx hb dRun_pushesMoreThanItPops_60 (by decide) ?_
    refine lv_goto (tgt := 65) hx hb dRun_pushesMoreThanItPops_61 (by decide) ?_
    exact hret 1 (())  (rfl) _ _ _ (rfl) (hP.sub [] rfl) (hD.sub [] (by decide) rfl) hS dRun_pushesMoreThanItPops_65
  · refine lv_iload_n hx hb dRun_pushesMoreThanItPops_0 rfl (lv_at hl 0 rfl) ?_
    refine lv_lookup (tgt := 64) (off := 63) hx hb dRun_pushesMoreThanItPops_1 (by decide) (by decide) (by decide) ?_
    refine lv_iconst (v := 0) hx hb dRun_pushesMoreThanItPops_64 (by decide) ?_
    exact hret 0 (())  (rfl) _ _ _ (rfl) (hP.sub [] rfl) (hD.sub [] (by decide) rfl) hS dRun_pushesMoreThanItPops_65
  · refine lv_iload_n hx hb dRun_pushesMoreThanItPops_0 rfl (lv_at hl 0 rfl) ?_
    refine lv_lookup (tgt := 64) (off := 63) hx hb dRun_pushesMoreThanItPops_1 (by decide) (by decide) (by decide) ?_
    refine lv_iconst (v := 0) hx hb dRun_pushesMoreThanItPops_64 (by decide) ?_
    exact hret 0 (())  (rfl) _ _ _ (rfl) (hP.sub [] rfl) (hD.sub [] (by decide) rfl) hS dRun_pushesMoreThanItPops_65
  · refine lv_iload_n hx hb dRun_pushesMoreThanItPops_0 rfl (lv_at hl 0 rfl) ?_
    refine lv_lookup (tgt := 64) (off := 63) hx hb dRun_pushesMoreThanItPops_1 (by decide) (by decide) (by decide) ?_
    refine lv_iconst (v := 0) hx hb dRun_pushesMoreThanItPops_64 (by decide) ?_
    exact hret 0 (())  (rfl) _ _ _ (rfl) (hP.sub [] rfl) (hD.sub [] (by decide) rfl) hS dRun_pushesMoreThanItPops_65
  · refine lv_iload_n hx hb dRun_pushesMoreThanItPops_0 rfl (lv_at hl 0 rfl) ?_
    refine lv_lookup (tgt := 64) (off := 63) hx hb dRun_pushesMoreThanItPops_1 (by decide) (by decide) (by decide) ?_
    refine lv_iconst (v := 0) hx hb dRun_pushesMoreThanItPops_64 (by decide) ?_
    exact hret 0 (())  (rfl) _ _ _ (rfl) (hP.sub [] rfl) (hD.sub [] (by decide) rfl) hS dRun_pushesMoreThanItPops_65
  · refine lv_iload_n hx hb dRun_pushesMoreThanItPops_0 rfl (lv_at hl 0 rfl) ?_
    refine lv_lookup (tgt := 60) (off := 59) hx hb dRun_pushesMoreThanItPops_1 (by decide) (by decide) (by decide) ?_
    refine lv_iconst (v := 1) hx hb dRun_pushesMoreThanItPops_60 (by decide) ?_
    refine lv_goto (tgt := 65) hx hb dRun_pushesMoreThanItPops_61 (by decide) ?_
    exact hret 1 (())  (rfl) _ _ _ (rfl) (hP.sub [] rfl) (hD.sub [] (by decide) rfl) hS dRun_pushesMoreThanItPops_65
  · refine lv_iload_n hx hb dRun_pushesMoreThanItPops_0 rfl (lv_at hl 0 rfl) ?_
    refine lv_lookup (tgt := 64) (off := 63) hx hb dRun_pushesMoreThanItPops_1 (by decide) (by decide) (by decide) ?_
    refine lv_iconst (v := 0) hx hb dRun_pushesMoreThanItPops_64 (by decide) ?_
    exact hret 0 (())  (rfl) _ _ _ (rfl) (hP.sub [] rfl) (hD.sub [] (by decide) rfl) hS dRun_pushesMoreThanItPops_65

set_option maxHeartbeats 4000000 in
set_option maxRecDepth 100000 in
theorem kRun_computed (l : Launch) (dC : Nat → ClassId) (dI : Nat → Nat → Nat) (kI kJ kZ : ClassId) (op : Nat) (a : Int32) (b : Int32) (h5 : 5 ≤ op) (h15 : op ≤ 15) (h12 : op ≠ 12) :
    XM stX l yRun_computed wRun_computed { frames := 0, cells := 0, slots := 0, locals := 0 } (dC, dI) xCl (x_T kI kJ kZ) [] [.int (nI op), .int a, .int b] 0 0 x_eI (fun (r : Int32) (u : Unit) => r = xComp op a b) (fun (u : Unit) => []) := by
  refine XM.ofI (cc := cRun_computed) (maxL := 3) (by decide) rfl (Nat.le_of_ble_eq_true rfl) ?_
  intro p e s m below meth c A Q hx hb hr hml hown hts hlocks hin hA hK hP hD hX hS ls hl hret
  have hl : lv_has ls 3 [(0, .int (nI op)), (1, .int a), (2, .int b)] := hl
  rcases (show op = 5 ∨ op = 6 ∨ op = 7 ∨ op = 8 ∨ op = 9 ∨ op = 10 ∨ op = 11 ∨ op = 13 ∨ op = 14 ∨ op = 15 by omega) with rfl | rfl | rfl | rfl | rfl | rfl | rfl | rfl | rfl | rfl
  · refine lv_iload_n hx hb dRun_computed_0 rfl (lv_at hl 0 rfl) ?_
    refine lv_tableIn (tgt := 60) (off := 59) hx hb dRun_computed_1 (by decide) (by decide) (by decide) (by decide) ?_
    refine lv_iload_n hx hb dRun_computed_60 rfl (lv_at hl 1 rfl) ?_
    refine lv_iload_n hx hb dRun_computed_61 rfl (lv_at hl 2 rfl) ?_
    refine lv_iadd hx hb dRun_computed_62 ?_
    refine lv_goto (tgt := 151) hx hb dRun_computed_63 (by decide) ?_
    exact hret (a + b) (()) _ _ _ (by first | rfl | (simp [xComp, c79]; done) | (simp [xComp, c93]; done) | (simp [xComp, c108]; done) | exact (if_neg (x_le_nlt c108)).symm | exact (if_pos (x_nle_lt c108)).symm | (simp [xComp, c121]; done)) (hP.sub [] rfl) (hD.sub [] (by decide) rfl) hS dRun_computed_151
  · refine lv_iload_n hx hb dRun_computed_0 rfl (lv_at hl 0 rfl) ?_
    refine lv_tableIn (tgt := 66) (off := 65) hx hb dRun_computed_1 (by decide) (by decide) (by decide) (by decide) ?_
    refine lv_iload_n hx hb dRun_computed_66 rfl (lv_at hl 1 rfl) ?_
    refine lv_iload_n hx hb dRun_computed_67 rfl (lv_at hl 2 rfl) ?_
    refine lv_isub hx hb dRun_computed_68 ?_
    refine lv_goto (tgt := 151) hx hb dRun_computed_69 (by decide) ?_
    exact hret (a - b) (()) _ _ _ (by first | rfl | (simp [xComp, c79]; done) | (simp [xComp, c93]; done) | (simp [xComp, c108]; done) | exact (if_neg (x_le_nlt c108)).symm | exact (if_pos (x_nle_lt c108)).symm | (simp [xComp, c121]; done)) (hP.sub [] rfl) (hD.sub [] (by decide) rfl) hS dRun_computed_151
  · refine lv_iload_n hx hb dRun_computed_0 rfl (lv_at hl 0 rfl) ?_
    refine lv_tableIn (tgt := 72) (off := 71) hx hb dRun_computed_1 (by decide) (by decide) (by decide) (by decide) ?_
    refine lv_iload_n hx hb dRun_computed_72 rfl (lv_at hl 1 rfl) ?_
    refine lv_iload_n hx hb dRun_computed_73 rfl (lv_at hl 2 rfl) ?_
    refine lv_imul hx hb dRun_computed_74 ?_
    refine lv_goto (tgt := 151) hx hb dRun_computed_75 (by decide) ?_
    exact hret (a * b) (()) _ _ _ (by first | rfl | (simp [xComp, c79]; done) | (simp [xComp, c93]; done) | (simp [xComp, c108]; done) | exact (if_neg (x_le_nlt c108)).symm | exact (if_pos (x_nle_lt c108)).symm | (simp [xComp, c121]; done)) (hP.sub [] rfl) (hD.sub [] (by decide) rfl) hS dRun_computed_151
  · refine lv_iload_n hx hb dRun_computed_0 rfl (lv_at hl 0 rfl) ?_
    refine lv_tableIn (tgt := 78) (off := 77) hx hb dRun_computed_1 (by decide) (by decide) (by decide) (by decide) ?_
    refine lv_iload_n hx hb dRun_computed_78 rfl (lv_at hl 2 rfl) ?_
    refine lv_if_ne (tgt := 86) hx hb dRun_computed_79 (by decide) (fun c79 => ?_) (fun c79 => ?_)
    · refine lv_iload_n hx hb dRun_computed_86 rfl (lv_at hl 1 rfl) ?_
      refine lv_iload_n hx hb dRun_computed_87 rfl (lv_at hl 2 rfl) ?_
      refine lv_idiv hx hb dRun_computed_88 (c79) ?_
      refine lv_goto (tgt := 151) hx hb dRun_computed_89 (by decide) ?_
      exact hret (a / b) (()) _ _ _ (by first | rfl | (simp [xComp, c79]; done) | (simp [xComp, c93]; done) | (simp [xComp, c108]; done) | exact (if_neg (x_le_nlt c108)).symm | exact (if_pos (x_nle_lt c108)).symm | (simp [xComp, c121]; done)) (hP.sub [] rfl) (hD.sub [] (by decide) rfl) hS dRun_computed_151
    · refine lv_iconst (v := 0) hx hb dRun_computed_82 (by decide) ?_
      refine lv_goto (tgt := 151) hx hb dRun_computed_83 (by decide) ?_
      exact hret 0 (()) _ _ _ (by first | rfl | (simp [xComp, c79]; done) | (simp [xComp, c93]; done) | (simp [xComp, c108]; done) | exact (if_neg (x_le_nlt c108)).symm | exact (if_pos (x_nle_lt c108)).symm | (simp [xComp, c121]; done)) (hP.sub [] rfl) (hD.sub [] (by decide) rfl) hS dRun_computed_151
  · refine lv_iload_n hx hb dRun_computed_0 rfl (lv_at hl 0 rfl) ?_
    refine lv_tableIn (tgt := 92) (off := 91) hx hb dRun_computed_1 (by decide) (by decide) (by decide) (by decide) ?_
    refine lv_iload_n hx hb dRun_computed_92 rfl (lv_at hl 2 rfl) ?_
    refine lv_if_ne (tgt := 100) hx hb dRun_computed_93 (by decide) (fun c93 => ?_) (fun c93 => ?_)
    · refine lv_iload_n hx hb dRun_computed_100 rfl (lv_at hl 1 rfl) ?_
      refine lv_iload_n hx hb dRun_computed_101 rfl (lv_at hl 2 rfl) ?_
      refine lv_irem hx hb dRun_computed_102 (c93) ?_
      refine lv_goto (tgt := 151) hx hb dRun_computed_103 (by decide) ?_
      exact hret (a - a / b * b) (()) _ _ _ (by first | rfl | (simp [xComp, c79]; done) | (simp [xComp, c93]; done) | (simp [xComp, c108]; done) | exact (if_neg (x_le_nlt c108)).symm | exact (if_pos (x_nle_lt c108)).symm | (simp [xComp, c121]; done)) (hP.sub [] rfl) (hD.sub [] (by decide) rfl) hS dRun_computed_151
    · refine lv_iload_n hx hb dRun_computed_96 rfl (lv_at hl 1 rfl) ?_
      refine lv_goto (tgt := 151) hx hb dRun_computed_97 (by decide) ?_
      exact hret a (()) _ _ _ (by first | rfl | (simp [xComp, c79]; done) | (simp [xComp, c93]; done) | (simp [xComp, c108]; done) | exact (if_neg (x_le_nlt c108)).symm | exact (if_pos (x_nle_lt c108)).symm | (simp [xComp, c121]; done)) (hP.sub [] rfl) (hD.sub [] (by decide) rfl) hS dRun_computed_151
  · refine lv_iload_n hx hb dRun_computed_0 rfl (lv_at hl 0 rfl) ?_
    refine lv_tableIn (tgt := 106) (off := 105) hx hb dRun_computed_1 (by decide) (by decide) (by decide) (by decide) ?_
    refine lv_iload_n hx hb dRun_computed_106 rfl (lv_at hl 1 rfl) ?_
    refine lv_iload_n hx hb dRun_computed_107 rfl (lv_at hl 2 rfl) ?_
    refine lv_icmp_ge (tgt := 115) hx hb dRun_computed_108 (by decide) (fun c108 => ?_) (fun c108 => ?_)
    · refine lv_iconst (v := 0) hx hb dRun_computed_115 (by decide) ?_
      refine lv_goto (tgt := 151) hx hb dRun_computed_116 (by decide) ?_
      exact hret 0 (()) _ _ _ (by first | rfl | (simp [xComp, c79]; done) | (simp [xComp, c93]; done) | (simp [xComp, c108]; done) | exact (if_neg (x_le_nlt c108)).symm | exact (if_pos (x_nle_lt c108)).symm | (simp [xComp, c121]; done)) (hP.sub [] rfl) (hD.sub [] (by decide) rfl) hS dRun_computed_151
    · refine lv_iconst (v := 1) hx hb dRun_computed_111 (by decide) ?_
      refine lv_goto (tgt := 151) hx hb dRun_computed_112 (by decide) ?_
      exact hret 1 (()) _ _ _ (by first | rfl | (simp [xComp, c79]; done) | (simp [xComp, c93]; done) | (simp [xComp, c108]; done) | exact (if_neg (x_le_nlt c108)).symm | exact (if_pos (x_nle_lt c108)).symm | (simp [xComp, c121]; done)) (hP.sub [] rfl) (hD.sub [] (by decide) rfl) hS dRun_computed_151
  · refine lv_iload_n hx hb dRun_computed_0 rfl (lv_at hl 0 rfl) ?_
    refine lv_tableIn (tgt := 119) (off := 118) hx hb dRun_computed_1 (by decide) (by decide) (by decide) (by decide) ?_
    refine lv_iload_n hx hb dRun_computed_119 rfl (lv_at hl 1 rfl) ?_
    refine lv_iload_n hx hb dRun_computed_120 rfl (lv_at hl 2 rfl) ?_
    refine lv_icmp_ne (tgt := 128) hx hb dRun_computed_121 (by decide) (fun c121 => ?_) (fun c121 => ?_)
    · refine lv_iconst (v := 0) hx hb dRun_computed_128 (by decide) ?_
      refine lv_goto (tgt := 151) hx hb dRun_computed_129 (by decide) ?_
      exact hret 0 (()) _ _ _ (by first | rfl | (simp [xComp, c79]; done) | (simp [xComp, c93]; done) | (simp [xComp, c108]; done) | exact (if_neg (x_le_nlt c108)).symm | exact (if_pos (x_nle_lt c108)).symm | (simp [xComp, c121]; done)) (hP.sub [] rfl) (hD.sub [] (by decide) rfl) hS dRun_computed_151
    · refine lv_iconst (v := 1) hx hb dRun_computed_124 (by decide) ?_
      refine lv_goto (tgt := 151) hx hb dRun_computed_125 (by decide) ?_
      exact hret 1 (()) _ _ _ (by first | rfl | (simp [xComp, c79]; done) | (simp [xComp, c93]; done) | (simp [xComp, c108]; done) | exact (if_neg (x_le_nlt c108)).symm | exact (if_pos (x_nle_lt c108)).symm | (simp [xComp, c121]; done)) (hP.sub [] rfl) (hD.sub [] (by decide) rfl) hS dRun_computed_151
  · refine lv_iload_n hx hb dRun_computed_0 rfl (lv_at hl 0 rfl) ?_
    refine lv_tableIn (tgt := 132) (off := 131) hx hb dRun_computed_1 (by decide) (by decide) (by decide) (by decide) ?_
    refine lv_iload_n hx hb dRun_computed_132 rfl (lv_at hl 1 rfl) ?_
    refine lv_iload_n hx hb dRun_computed_133 rfl (lv_at hl 2 rfl) ?_
    refine lv_iand hx hb dRun_computed_134 ?_
    refine lv_goto (tgt := 151) hx hb dRun_computed_135 (by decide) ?_
    exact hret (a &&& b) (()) _ _ _ (by first | rfl | (simp [xComp, c79]; done) | (simp [xComp, c93]; done) | (simp [xComp, c108]; done) | exact (if_neg (x_le_nlt c108)).symm | exact (if_pos (x_nle_lt c108)).symm | (simp [xComp, c121]; done)) (hP.sub [] rfl) (hD.sub [] (by decide) rfl) hS dRun_computed_151
  · refine lv_iload_n hx hb dRun_computed_0 rfl (lv_at hl 0 rfl) ?_
    refine lv_tableIn (tgt := 138) (off := 137) hx hb dRun_computed_1 (by decide) (by decide) (by decide) (by decide) ?_
    refine lv_iload_n hx hb dRun_computed_138 rfl (lv_at hl 1 rfl) ?_
    refine lv_iload_n hx hb dRun_computed_139 rfl (lv_at hl 2 rfl) ?_
    refine lv_ior hx hb dRun_computed_140 ?_
    refine lv_goto (tgt := 151) hx hb dRun_computed_141 (by decide) ?_
    exact hret (a ||| b) (()) _ _ _ (by first | rfl | (simp [xComp, c79]; done) | (simp [xComp, c93]; done) | (simp [xComp, c108]; done) | exact (if_neg (x_le_nlt c108)).symm | exact (if_pos (x_nle_lt c108)).symm | (simp [xComp, c121]; done)) (hP.sub [] rfl) (hD.sub [] (by decide) rfl) hS dRun_computed_151
  · refine lv_iload_n hx hb dRun_computed_0 rfl (lv_at hl 0 rfl) ?_
    refine lv_tableIn (tgt := 144) (off := 143) hx hb dRun_computed_1 (by decide) (by decide) (by decide) (by decide) ?_
    refine lv_iload_n hx hb dRun_computed_144 rfl (lv_at hl 1 rfl) ?_
    refine lv_iload_n hx hb dRun_computed_145 rfl (lv_at hl 2 rfl) ?_
    refine lv_ixor hx hb dRun_computed_146 ?_
    refine lv_goto (tgt := 151) hx hb dRun_computed_147 (by decide) ?_
    exact hret (a ^^^ b) (()) _ _ _ (by first | rfl | (simp [xComp, c79]; done) | (simp [xComp, c93]; done) | (simp [xComp, c108]; done) | exact (if_neg (x_le_nlt c108)).symm | exact (if_pos (x_nle_lt c108)).symm | (simp [xComp, c121]; done)) (hP.sub [] rfl) (hD.sub [] (by decide) rfl) hS dRun_computed_151

set_option maxHeartbeats 4000000 in
set_option maxRecDepth 100000 in
theorem kRun_storePrice (l : Launch) (dC : Nat → ClassId) (dI : Nat → Nat → Nat) (kI kJ kZ : ClassId) (r0 : Nat) (qc : Nat) (qb : Nat) (qs : Nat) (qk : Nat) (iv : Value) (rs : Nat) (ra : Nat) (rb : Nat) (cb : Int32) (kb : Int32) (ac : Nat) (cl : Int32) (vl : Int32) (gs : Nat) (pk : Nat) (en : Int32) (an : Int32) (rs1 : Nat) (sf : Nat → Int32) (sn : Nat) (qs1 : Nat) (qs2 : Nat) (qs3 : Nat) (qs4 : Nat) (kn : Nat) (ch : Nat) (sl : Nat → Int64) (nu : Nat → Int32) (σ : Int64 → Int32) (hsn : sn ≤ 32) (hst : ST sl nu kn σ) :
    XM stX l yRun_storePrice wRun_storePrice { frames := 2, cells := 0, slots := 0, locals := 49 } (dC, dI) xCl (x_T kI kJ kZ) [(r0, .inr (3, [.ref qc, .ref qb, .ref qs, .ref qk, iv, .ref rs, .ref ra, .ref rb, .int cb, .int kb, .int (nI ac), .int cl, .int vl, .int (nI gs), .int (nI pk), .int en, .int an])), (rs, .inr (2, [.ref rs1, .int (nI sn)])), (rs1, .inl (kI, 32, .inl sf)), (qs, .inr (4, [.ref qs1, .ref qs2, .int (nI kn), .ref qs3, .ref qs4, .int (nI ch)])), (qs1, .inl (kJ, 500, .inr (.inl sl))), (qs2, .inl (kI, 500, .inl nu))] [.ref r0] 0 0 x_eI (fun (r : Int32) (u : Unit) => r = if sn < 2 then 5 else if σ (xSlot (nI ac) (sf (sn - 1 - 1))) = sf (sn - 1) then 5 else if σ (xSlot (nI ac) (sf (sn - 1 - 1))) = 0 then 40 else 20) (fun (u : Unit) => [(r0, .inr (3, [.ref qc, .ref qb, .ref qs, .ref qk, iv, .ref rs, .ref ra, .ref rb, .int cb, .int kb, .int (nI ac), .int cl, .int vl, .int (nI gs), .int (nI pk), .int en, .int an])), (rs, .inr (2, [.ref rs1, .int (nI sn)])), (rs1, .inl (kI, 32, .inl sf)), (qs, .inr (4, [.ref qs1, .ref qs2, .int (nI kn), .ref qs3, .ref qs4, .int (nI ch)])), (qs1, .inl (kJ, 500, .inr (.inl sl))), (qs2, .inl (kI, 500, .inl nu))]) := by
  refine XM.ofI (cc := cRun_storePrice) (maxL := 2) (by decide) rfl (Nat.le_of_ble_eq_true rfl) ?_
  intro p e s m below meth c A Q hx hb hr hml hown hts hlocks hin hA hK hP hD hX hS ls hl hret
  have hl : lv_has ls 2 [(0, .ref r0)] := hl
  refine lv_aload_n hx hb dRun_storePrice_0 rfl (lv_at hl 0 rfl) ?_
  refine va_get (D := (dC, dI)) (ci := 3) (v := .ref rs) (C := RRun) (T := TRun) (N := 17) hx hb hts (fun w h => List.mem_cons_of_mem _ (layRun w h)) hown hK hP 0 rfl rfl 5 (by decide) (hts (.fieldLink RRun 14 "CallLedger$Run" "stack" "LCallLedger$Row;") (List.mem_cons_of_mem _ gw145)) (fun _ h9 => h9) rfl dRun_storePrice_1 ?_
  refine XM.callVi (As := []) (rest := []) (wr := [(r0, .inr (3, [.ref qc, .ref qb, .ref qs, .ref qk, iv, .ref rs, .ref ra, .ref rb, .int cb, .int kb, .int (nI ac), .int cl, .int vl, .int (nI gs), .int (nI pk), .int en, .int an])), (rs1, .inl (kI, 32, .inl sf)), (qs, .inr (4, [.ref qs1, .ref qs2, .int (nI kn), .ref qs3, .ref qs4, .int (nI ch)])), (qs1, .inl (kJ, 500, .inr (.inl sl))), (qs2, .inl (kI, 500, .inl nu))]) stX_ok ⟨hx, hb, hml, hown, hts⟩ (kRow_size l dC dI kI kJ kZ rs rs1 sn ) (cwV 0 hts (x_gV gw478 gw231 gw232 gw40 gw233) rfl rfl rfl (by decide +kernel) ⟨Nat.le_of_ble_eq_true rfl, Nat.le_of_ble_eq_true rfl⟩) hK hP hD hS hA hX [1] [0, 2, 3, 4, 5] rfl rfl (by decide) (by decide) (by decide) rfl rfl rfl rfl hl.1 (Nat.le_of_ble_eq_true rfl) dRun_storePrice_4 ⟨Nat.le_of_ble_eq_true rfl, Nat.le_of_ble_eq_true rfl⟩ (fun r_2 u_1 H locs hw hP hD hS => ?_)
  obtain rfl := hw
  have hP : va_P (dC, dI) xCl [(r0, .inr (3, [.ref qc, .ref qb, .ref qs, .ref qk, iv, .ref rs, .ref ra, .ref rb, .int cb, .int kb, .int (nI ac), .int cl, .int vl, .int (nI gs), .int (nI pk), .int en, .int an])), (rs1, .inl (kI, 32, .inl sf)), (qs, .inr (4, [.ref qs1, .ref qs2, .int (nI kn), .ref qs3, .ref qs4, .int (nI ch)])), (qs1, .inl (kJ, 500, .inr (.inl sl))), (qs2, .inl (kI, 500, .inl nu)), (rs, .inr (2, [.ref rs1, .int (nI sn)]))] H := hP
  have hD : va_D A [(r0, .inr (3, [.ref qc, .ref qb, .ref qs, .ref qk, iv, .ref rs, .ref ra, .ref rb, .int cb, .int kb, .int (nI ac), .int cl, .int vl, .int (nI gs), .int (nI pk), .int en, .int an])), (rs1, .inl (kI, 32, .inl sf)), (qs, .inr (4, [.ref qs1, .ref qs2, .int (nI kn), .ref qs3, .ref qs4, .int (nI ch)])), (qs1, .inl (kJ, 500, .inr (.inl sl))), (qs2, .inl (kI, 500, .inl nu)), (rs, .inr (2, [.ref rs1, .int (nI sn)]))] := hD
  refine lv_iconst (v := 2) hx hb dRun_storePrice_7 (by decide) ?_
  refine lv_icmp_ge (tgt := 13) hx hb dRun_storePrice_8 (by decide) (fun c8 => ?_) (fun c8 => ?_)
  · have c8 : 2 ≤ sn := (nI_leI (a := 2) (b := sn) (by omega) (by omega)).mp c8
    refine lv_aload_n hx hb dRun_storePrice_13 rfl (lv_at hl 0 rfl) ?_
    refine va_get (D := (dC, dI)) (ci := 3) (v := .ref qs) (C := RRun) (T := TRun) (N := 17) hx hb hts (fun w h => List.mem_cons_of_mem _ (layRun w h)) hown hK hP 0 rfl rfl 2 (by decide) (hts (.fieldLink RRun 35 "CallLedger$Run" "store" "LCallLedger$Store;") (List.mem_cons_of_mem _ gw142)) (fun _ h9 => h9) rfl dRun_storePrice_14 ?_
    refine lv_aload_n hx hb dRun_storePrice_17 rfl (lv_at hl 0 rfl) ?_
    refine va_get (D := (dC, dI)) (ci := 3) (v := .int (nI ac)) (C := RRun) (T := TRun) (N := 17) hx hb hts (fun w h => List.mem_cons_of_mem _ (layRun w h)) hown hK hP 0 rfl rfl 10 (by decide) (hts (.fieldLink RRun 50 "CallLedger$Run" "account" "I") (List.mem_cons_of_mem _ gw151)) (fun _ h9 => h9) rfl dRun_storePrice_18 ?_
    refine lv_aload_n hx hb dRun_storePrice_21 rfl (lv_at hl 0 rfl) ?_
    refine va_get (D := (dC, dI)) (ci := 3) (v := .ref rs) (C := RRun) (T := TRun) (N := 17) hx hb hts (fun w h => List.mem_cons_of_mem _ (layRun w h)) hown hK hP 0 rfl rfl 5 (by decide) (hts (.fieldLink RRun 14 "CallLedger$Run" "stack" "LCallLedger$Row;") (List.mem_cons_of_mem _ gw145)) (fun _ h9 => h9) rfl dRun_storePrice_22 ?_
    refine lv_iconst (v := 1) hx hb dRun_storePrice_25 (by decide) ?_
    refine XM.callVi (As := [.int 1]) (rest := [.int (nI ac), .ref qs]) (wr := [(r0, .inr (3, [.ref qc, .ref qb, .ref qs, .ref qk, iv, .ref rs, .ref ra, .ref rb, .int cb, .int kb, .int (nI ac), .int cl, .int vl, .int (nI gs), .int (nI pk), .int en, .int an])), (qs, .inr (4, [.ref qs1, .ref qs2, .int (nI kn), .ref qs3, .ref qs4, .int (nI ch)])), (qs1, .inl (kJ, 500, .inr (.inl sl))), (qs2, .inl (kI, 500, .inl nu))]) stX_ok ⟨hx, hb, hml, hown, hts⟩ (kRow_below l dC dI kI kJ kZ rs rs1 32 sn sf 1 (by first | assumption | omega) (by first | assumption | omega) (by first | assumption | omega)) (cwV 1 hts (x_gV gw508 gw509 gw510 gw40 gw511) rfl rfl rfl (by decide +kernel) ⟨Nat.le_of_ble_eq_true rfl, Nat.le_of_ble_eq_true rfl⟩) hK hP hD hS hA hX [5, 1] [0, 2, 3, 4] rfl rfl (by decide) (by decide) (by decide) rfl rfl rfl rfl hl.1 (Nat.le_of_ble_eq_true rfl) dRun_storePrice_26 ⟨Nat.le_of_ble_eq_true rfl, Nat.le_of_ble_eq_true rfl⟩ (fun r_4 u_3 H locs hw hP hD hS => ?_)
    obtain rfl := hw
    have hP : va_P (dC, dI) xCl [(r0, .inr (3, [.ref qc, .ref qb, .ref qs, .ref qk, iv, .ref rs, .ref ra, .ref rb, .int cb, .int kb, .int (nI ac), .int cl, .int vl, .int (nI gs), .int (nI pk), .int en, .int an])), (qs, .inr (4, [.ref qs1, .ref qs2, .int (nI kn), .ref qs3, .ref qs4, .int (nI ch)])), (qs1, .inl (kJ, 500, .inr (.inl sl))), (qs2, .inl (kI, 500, .inl nu)), (rs, .inr (2, [.ref rs1, .int (nI sn)])), (rs1, .inl (kI, 32, .inl sf))] H := hP
    have hD : va_D A [(r0, .inr (3, [.ref qc, .ref qb, .ref qs, .ref qk, iv, .ref rs, .ref ra, .ref rb, .int cb, .int kb, .int (nI ac), .int cl, .int vl, .int (nI gs), .int (nI pk), .int en, .int an])), (qs, .inr (4, [.ref qs1, .ref qs2, .int (nI kn), .ref qs3, .ref qs4, .int (nI ch)])), (qs1, .inl (kJ, 500, .inr (.inl sl))), (qs2, .inl (kI, 500, .inl nu)), (rs, .inr (2, [.ref rs1, .int (nI sn)])), (rs1, .inl (kI, 32, .inl sf))] := hD
    refine XM.callVi (As := [.int (nI ac), .int (sf (sn - 1 - 1))]) (rest := []) (wr := [(r0, .inr (3, [.ref qc, .ref qb, .ref qs, .ref qk, iv, .ref rs, .ref ra, .ref rb, .int cb, .int kb, .int (nI ac), .int cl, .int vl, .int (nI gs), .int (nI pk), .int en, .int an])), (rs, .inr (2, [.ref rs1, .int (nI sn)])), (rs1, .inl (kI, 32, .inl sf))]) stX_ok ⟨hx, hb, hml, hown, hts⟩ (kSto_read l dC dI kI kJ kZ qs qs1 qs2 qs3 qs4 kn ch sl nu σ (nI ac) (sf (sn - 1 - 1)) (by first | assumption | omega)) (cwV 2 hts (x_gV gw516 gw517 gw518 gw39 gw519) rfl rfl rfl (by decide +kernel) ⟨Nat.le_of_ble_eq_true rfl, Nat.le_of_ble_eq_true rfl⟩) hK hP hD hS hA hX [1, 2, 3] [0, 4, 5] rfl rfl (by decide) (by decide) (by decide) rfl rfl rfl rfl hl.1 (Nat.le_of_ble_eq_true rfl) dRun_storePrice_29 ⟨Nat.le_of_ble_eq_true rfl, Nat.le_of_ble_eq_true rfl⟩ (fun r_6 u_5 H locs hw hP hD hS => ?_)
    obtain rfl := hw
    have hP : va_P (dC, dI) xCl [(r0, .inr (3, [.ref qc, .ref qb, .ref qs, .ref qk, iv, .ref rs, .ref ra, .ref rb, .int cb, .int kb, .int (nI ac), .int cl, .int vl, .int (nI gs), .int (nI pk), .int en, .int an])), (rs, .inr (2, [.ref rs1, .int (nI sn)])), (rs1, .inl (kI, 32, .inl sf)), (qs, .inr (4, [.ref qs1, .ref qs2, .int (nI kn), .ref qs3, .ref qs4, .int (nI ch)])), (qs1, .inl (kJ, 500, .inr (.inl sl))), (qs2, .inl (kI, 500, .inl nu))] H := hP
    have hD : va_D A [(r0, .inr (3, [.ref qc, .ref qb, .ref qs, .ref qk, iv, .ref rs, .ref ra, .ref rb, .int cb, .int kb, .int (nI ac), .int cl, .int vl, .int (nI gs), .int (nI pk), .int en, .int an])), (rs, .inr (2, [.ref rs1, .int (nI sn)])), (rs1, .inl (kI, 32, .inl sf)), (qs, .inr (4, [.ref qs1, .ref qs2, .int (nI kn), .ref qs3, .ref qs4, .int (nI ch)])), (qs1, .inl (kJ, 500, .inr (.inl sl))), (qs2, .inl (kI, 500, .inl nu))] := hD
    refine lv_istore_n (lv' := [(1, .int (σ (xSlot (nI ac) (sf (sn - 1 - 1))))), (0, .ref r0)]) hx hb dRun_storePrice_32 rfl hl (by decide) rfl (fun ls hl => ?_)
    refine lv_iload_n hx hb dRun_storePrice_33 rfl (lv_at hl 0 rfl) ?_
    refine lv_aload_n hx hb dRun_storePrice_34 rfl (lv_at hl 1 rfl) ?_
    refine va_get (D := (dC, dI)) (ci := 3) (v := .ref rs) (C := RRun) (T := TRun) (N := 17) hx hb hts (fun w h => List.mem_cons_of_mem _ (layRun w h)) hown hK hP 0 rfl rfl 5 (by decide) (hts (.fieldLink RRun 14 "CallLedger$Run" "stack" "LCallLedger$Row;") (List.mem_cons_of_mem _ gw145)) (fun _ h9 => h9) rfl dRun_storePrice_35 ?_
    refine lv_iconst (v := 0) hx hb dRun_storePrice_38 (by decide) ?_
    refine XM.callVi (As := [.int 0]) (rest := [.int (σ (xSlot (nI ac) (sf (sn - 1 - 1))))]) (wr := [(r0, .inr (3, [.ref qc, .ref qb, .ref qs, .ref qk, iv, .ref rs, .ref ra, .ref rb, .int cb, .int kb, .int (nI ac), .int cl, .int vl, .int (nI gs), .int (nI pk), .int en, .int an])), (qs, .inr (4, [.ref qs1, .ref qs2, .int (nI kn), .ref qs3, .ref qs4, .int (nI ch)])), (qs1, .inl (kJ, 500, .inr (.inl sl))), (qs2, .inl (kI, 500, .inl nu))]) stX_ok ⟨hx, hb, hml, hown, hts⟩ (kRow_below l dC dI kI kJ kZ rs rs1 32 sn sf 0 (by first | assumption | omega) (by first | assumption | omega) (by first | assumption | omega)) (cwV 1 hts (x_gV gw508 gw509 gw510 gw40 gw511) rfl rfl rfl (by decide +kernel) ⟨Nat.le_of_ble_eq_true rfl, Nat.le_of_ble_eq_true rfl⟩) hK hP hD hS hA hX [1, 2] [0, 3, 4, 5] rfl rfl (by decide) (by decide) (by decide) rfl rfl rfl rfl hl.1 (Nat.le_of_ble_eq_true rfl) dRun_storePrice_39 ⟨Nat.le_of_ble_eq_true rfl, Nat.le_of_ble_eq_true rfl⟩ (fun r_8 u_7 H locs hw hP hD hS => ?_)
    obtain rfl := hw
    have hP : va_P (dC, dI) xCl [(r0, .inr (3, [.ref qc, .ref qb, .ref qs, .ref qk, iv, .ref rs, .ref ra, .ref rb, .int cb, .int kb, .int (nI ac), .int cl, .int vl, .int (nI gs), .int (nI pk), .int en, .int an])), (qs, .inr (4, [.ref qs1, .ref qs2, .int (nI kn), .ref qs3, .ref qs4, .int (nI ch)])), (qs1, .inl (kJ, 500, .inr (.inl sl))), (qs2, .inl (kI, 500, .inl nu)), (rs, .inr (2, [.ref rs1, .int (nI sn)])), (rs1, .inl (kI, 32, .inl sf))] H := hP
    have hD : va_D A [(r0, .inr (3, [.ref qc, .ref qb, .ref qs, .ref qk, iv, .ref rs, .ref ra, .ref rb, .int cb, .int kb, .int (nI ac), .int cl, .int vl, .int (nI gs), .int (nI pk), .int en, .int an])), (qs, .inr (4, [.ref qs1, .ref qs2, .int (nI kn), .ref qs3, .ref qs4, .int (nI ch)])), (qs1, .inl (kJ, 500, .inr (.inl sl))), (qs2, .inl (kI, 500, .inl nu)), (rs, .inr (2, [.ref rs1, .int (nI sn)])), (rs1, .inl (kI, 32, .inl sf))] := hD
    refine lv_icmp_ne (tgt := 47) hx hb dRun_storePrice_42 (by decide) (fun c42 => ?_) (fun c42 => ?_)
    · refine lv_iload_n hx hb dRun_storePrice_47 rfl (lv_at hl 0 rfl) ?_
      refine lv_if_ne (tgt := 56) hx hb dRun_storePrice_48 (by decide) (fun c48 => ?_) (fun c48 => ?_)
      · refine lv_bipush (v := 20) hx hb dRun_storePrice_56 (by decide) ?_
        exact hret 20 (()) _ _ _ (by first | exact ((if_neg (by omega)).trans (if_pos c42)).symm | exact ((if_neg (by omega)).trans ((if_neg c42).trans (if_neg c48))).symm | exact ((if_neg (by omega)).trans ((if_neg c42).trans (if_pos c48))).symm | exact (if_pos (by omega)).symm) (hP.sub [0, 4, 5, 1, 2, 3] rfl) (hD.sub [0, 4, 5, 1, 2, 3] (by decide) rfl) hS dRun_storePrice_58
      · refine lv_bipush (v := 40) hx hb dRun_storePrice_51 (by decide) ?_
        refine lv_goto (tgt := 58) hx hb dRun_storePrice_53 (by decide) ?_
        exact hret 40 (()) _ _ _ (by first | exact ((if_neg (by omega)).trans (if_pos c42)).symm | exact ((if_neg (by omega)).trans ((if_neg c42).trans (if_neg c48))).symm | exact ((if_neg (by omega)).trans ((if_neg c42).trans (if_pos c48))).symm | exact (if_pos (by omega)).symm) (hP.sub [0, 4, 5, 1, 2, 3] rfl) (hD.sub [0, 4, 5, 1, 2, 3] (by decide) rfl) hS dRun_storePrice_58
    · refine lv_iconst (v := 5) hx hb dRun_storePrice_45 (by decide) ?_
      exact hret 5 (()) _ _ _ (by first | exact ((if_neg (by omega)).trans (if_pos c42)).symm | exact ((if_neg (by omega)).trans ((if_neg c42).trans (if_neg c48))).symm | exact ((if_neg (by omega)).trans ((if_neg c42).trans (if_pos c48))).symm | exact (if_pos (by omega)).symm) (hP.sub [0, 4, 5, 1, 2, 3] rfl) (hD.sub [0, 4, 5, 1, 2, 3] (by decide) rfl) hS dRun_storePrice_46
  · have c8 : ¬ (2 ≤ sn) := fun z9 => c8 ((nI_leI (a := 2) (b := sn) (by omega) (by omega)).mpr z9)
    refine lv_iconst (v := 5) hx hb dRun_storePrice_11 (by decide) ?_
    exact hret 5 (()) _ _ _ (by first | exact ((if_neg (by omega)).trans (if_pos c42)).symm | exact ((if_neg (by omega)).trans ((if_neg c42).trans (if_neg c48))).symm | exact ((if_neg (by omega)).trans ((if_neg c42).trans (if_pos c48))).symm | exact (if_pos (by omega)).symm) (hP.sub [0, 5, 1, 2, 3, 4] rfl) (hD.sub [0, 5, 1, 2, 3, 4] (by decide) rfl) hS dRun_storePrice_12

set_option maxHeartbeats 4000000 in
set_option maxRecDepth 100000 in
theorem kRun_callPrice (l : Launch) (dC : Nat → ClassId) (dI : Nat → Nat → Nat) (kI kJ kZ : ClassId) (r0 : Nat) (qc : Nat) (qb : Nat) (qs : Nat) (qk : Nat) (iv : Value) (rs : Nat) (ra : Nat) (rb : Nat) (cb : Int32) (kb : Int32) (ac : Nat) (cl : Int32) (vl : Int32) (gs : Nat) (pk : Nat) (en : Int32) (an : Int32) (rs1 : Nat) (sf : Nat → Int32) (sn : Nat) (hsn : sn ≤ 32) :
    XM stX l yRun_callPrice wRun_callPrice { frames := 2, cells := 0, slots := 0, locals := 42 } (dC, dI) xCl (x_T kI kJ kZ) [(r0, .inr (3, [.ref qc, .ref qb, .ref qs, .ref qk, iv, .ref rs, .ref ra, .ref rb, .int cb, .int kb, .int (nI ac), .int cl, .int vl, .int (nI gs), .int (nI pk), .int en, .int an])), (rs, .inr (2, [.ref rs1, .int (nI sn)])), (rs1, .inl (kI, 32, .inl sf))] [.ref r0] 0 0 x_eI (fun (r : Int32) (u : Unit) => r = if sn < 2 ∨ sf (sn - 1 - 1) = 0 then 25 else 40) (fun (u : Unit) => [(r0, .inr (3, [.ref qc, .ref qb, .ref qs, .ref qk, iv, .ref rs, .ref ra, .ref rb, .int cb, .int kb, .int (nI ac), .int cl, .int vl, .int (nI gs), .int (nI pk), .int en, .int an])), (rs, .inr (2, [.ref rs1, .int (nI sn)])), (rs1, .inl (kI, 32, .inl sf))]) := by
  refine XM.ofI (cc := cRun_callPrice) (maxL := 2) (by decide) rfl (Nat.le_of_ble_eq_true rfl) ?_
  intro p e s m below meth c A Q hx hb hr hml hown hts hlocks hin hA hK hP hD hX hS ls hl hret
  have hl : lv_has ls 2 [(0, .ref r0)] := hl
  refine lv_aload_n hx hb dRun_callPrice_0 rfl (lv_at hl 0 rfl) ?_
  refine va_get (D := (dC, dI)) (ci := 3) (v := .ref rs) (C := RRun) (T := TRun) (N := 17) hx hb hts (fun w h => List.mem_cons_of_mem _ (layRun w h)) hown hK hP 0 rfl rfl 5 (by decide) (hts (.fieldLink RRun 14 "CallLedger$Run" "stack" "LCallLedger$Row;") (List.mem_cons_of_mem _ gw145)) (fun _ h9 => h9) rfl dRun_callPrice_1 ?_
  refine XM.callVi (As := []) (rest := []) (wr := [(r0, .inr (3, [.ref qc, .ref qb, .ref qs, .ref qk, iv, .ref rs, .ref ra, .ref rb, .int cb, .int kb, .int (nI ac), .int cl, .int vl, .int (nI gs), .int (nI pk), .int en, .int an])), (rs1, .inl (kI, 32, .inl sf))]) stX_ok ⟨hx, hb, hml, hown, hts⟩ (kRow_size l dC dI kI kJ kZ rs rs1 sn ) (cwV 0 hts (x_gV gw478 gw231 gw232 gw40 gw233) rfl rfl rfl (by decide +kernel) ⟨Nat.le_of_ble_eq_true rfl, Nat.le_of_ble_eq_true rfl⟩) hK hP hD hS hA hX [1] [0, 2] rfl rfl (by decide) (by decide) (by decide) rfl rfl rfl rfl hl.1 (Nat.le_of_ble_eq_true rfl) dRun_callPrice_4 ⟨Nat.le_of_ble_eq_true rfl, Nat.le_of_ble_eq_true rfl⟩ (fun r_2 u_1 H locs hw hP hD hS => ?_)
  obtain rfl := hw
  have hP : va_P (dC, dI) xCl [(r0, .inr (3, [.ref qc, .ref qb, .ref qs, .ref qk, iv, .ref rs, .ref ra, .ref rb, .int cb, .int kb, .int (nI ac), .int cl, .int vl, .int (nI gs), .int (nI pk), .int en, .int an])), (rs1, .inl (kI, 32, .inl sf)), (rs, .inr (2, [.ref rs1, .int (nI sn)]))] H := hP
  have hD : va_D A [(r0, .inr (3, [.ref qc, .ref qb, .ref qs, .ref qk, iv, .ref rs, .ref ra, .ref rb, .int cb, .int kb, .int (nI ac), .int cl, .int vl, .int (nI gs), .int (nI pk), .int en, .int an])), (rs1, .inl (kI, 32, .inl sf)), (rs, .inr (2, [.ref rs1, .int (nI sn)]))] := hD
  refine lv_iconst (v := 2) hx hb dRun_callPrice_7 (by decide) ?_
  refine lv_icmp_lt (tgt := 26) hx hb dRun_callPrice_8 (by decide) (fun c8 => ?_) (fun c8 => ?_)
  · have c8 : sn < 2 := (nI_ltI (a := sn) (b := 2) (by omega) (by omega)).mp c8
    refine lv_iconst (v := 0) hx hb dRun_callPrice_26 (by decide) ?_
    refine lv_istore_n (lv' := [(1, .int 0), (0, .ref r0)]) hx hb dRun_callPrice_27 rfl hl (by decide) rfl (fun ls hl => ?_)
    refine lv_iload_n hx hb dRun_callPrice_28 rfl (lv_at hl 0 rfl) ?_
    refine lv_if_eq (tgt := 37) hx hb dRun_callPrice_29 (by decide) (fun c29 => ?_) (fun c29 => ?_)
    · refine lv_bipush (v := 25) hx hb dRun_callPrice_37 (by decide) ?_
      exact hret 25 (()) _ _ _ (by first | (rw [if_pos (Or.inr c19)]; done) | (rw [if_neg (fun z => z.elim (fun q => by omega) c19)]; done) | (rw [if_pos (Or.inl (by omega))]; done)) (hP.sub [0, 2, 1] rfl) (hD.sub [0, 2, 1] (by decide) rfl) hS dRun_callPrice_39
    · exact absurd c29 (by decide)
  · have c8 : ¬ (sn < 2) := fun z9 => c8 ((nI_ltI (a := sn) (b := 2) (by omega) (by omega)).mpr z9)
    refine lv_aload_n hx hb dRun_callPrice_11 rfl (lv_at hl 0 rfl) ?_
    refine va_get (D := (dC, dI)) (ci := 3) (v := .ref rs) (C := RRun) (T := TRun) (N := 17) hx hb hts (fun w h => List.mem_cons_of_mem _ (layRun w h)) hown hK hP 0 rfl rfl 5 (by decide) (hts (.fieldLink RRun 14 "CallLedger$Run" "stack" "LCallLedger$Row;") (List.mem_cons_of_mem _ gw145)) (fun _ h9 => h9) rfl dRun_callPrice_12 ?_
    refine lv_iconst (v := 1) hx hb dRun_callPrice_15 (by decide) ?_
    refine XM.callVi (As := [.int 1]) (rest := []) (wr := [(r0, .inr (3, [.ref qc, .ref qb, .ref qs, .ref qk, iv, .ref rs, .ref ra, .ref rb, .int cb, .int kb, .int (nI ac), .int cl, .int vl, .int (nI gs), .int (nI pk), .int en, .int an]))]) stX_ok ⟨hx, hb, hml, hown, hts⟩ (kRow_below l dC dI kI kJ kZ rs rs1 32 sn sf 1 (by first | assumption | omega) (by first | assumption | omega) (by first | assumption | omega)) (cwV 1 hts (x_gV gw508 gw509 gw510 gw40 gw511) rfl rfl rfl (by decide +kernel) ⟨Nat.le_of_ble_eq_true rfl, Nat.le_of_ble_eq_true rfl⟩) hK hP hD hS hA hX [2, 1] [0] rfl rfl (by decide) (by decide) (by decide) rfl rfl rfl rfl hl.1 (Nat.le_of_ble_eq_true rfl) dRun_callPrice_16 ⟨Nat.le_of_ble_eq_true rfl, Nat.le_of_ble_eq_true rfl⟩ (fun r_4 u_3 H locs hw hP hD hS => ?_)
    obtain rfl := hw
    have hP : va_P (dC, dI) xCl [(r0, .inr (3, [.ref qc, .ref qb, .ref qs, .ref qk, iv, .ref rs, .ref ra, .ref rb, .int cb, .int kb, .int (nI ac), .int cl, .int vl, .int (nI gs), .int (nI pk), .int en, .int an])), (rs, .inr (2, [.ref rs1, .int (nI sn)])), (rs1, .inl (kI, 32, .inl sf))] H := hP
    have hD : va_D A [(r0, .inr (3, [.ref qc, .ref qb, .ref qs, .ref qk, iv, .ref rs, .ref ra, .ref rb, .int cb, .int kb, .int (nI ac), .int cl, .int vl, .int (nI gs), .int (nI pk), .int en, .int an])), (rs, .inr (2, [.ref rs1, .int (nI sn)])), (rs1, .inl (kI, 32, .inl sf))] := hD
    refine lv_if_eq (tgt := 26) hx hb dRun_callPrice_19 (by decide) (fun c19 => ?_) (fun c19 => ?_)
    · refine lv_iconst (v := 0) hx hb dRun_callPrice_26 (by decide) ?_
      refine lv_istore_n (lv' := [(1, .int 0), (0, .ref r0)]) hx hb dRun_callPrice_27 rfl hl (by decide) rfl (fun ls hl => ?_)
      refine lv_iload_n hx hb dRun_callPrice_28 rfl (lv_at hl 0 rfl) ?_
      refine lv_if_eq (tgt := 37) hx hb dRun_callPrice_29 (by decide) (fun c29 => ?_) (fun c29 => ?_)
      · refine lv_bipush (v := 25) hx hb dRun_callPrice_37 (by decide) ?_
        exact hret 25 (()) _ _ _ (by first | (rw [if_pos (Or.inr c19)]; done) | (rw [if_neg (fun z => z.elim (fun q => by omega) c19)]; done) | (rw [if_pos (Or.inl (by omega))]; done)) (hP.sub [0, 1, 2] rfl) (hD.sub [0, 1, 2] (by decide) rfl) hS dRun_callPrice_39
      · exact absurd c29 (by decide)
    · refine lv_iconst (v := 1) hx hb dRun_callPrice_22 (by decide) ?_
      refine lv_goto (tgt := 27) hx hb dRun_callPrice_23 (by decide) ?_
      refine lv_istore_n (lv' := [(1, .int 1), (0, .ref r0)]) hx hb dRun_callPrice_27 rfl hl (by decide) rfl (fun ls hl => ?_)
      refine lv_iload_n hx hb dRun_callPrice_28 rfl (lv_at hl 0 rfl) ?_
      refine lv_if_eq (tgt := 37) hx hb dRun_callPrice_29 (by decide) (fun c29 => ?_) (fun c29 => ?_)
      · exact absurd c29 (by decide)
      · refine lv_bipush (v := 40) hx hb dRun_callPrice_32 (by decide) ?_
        refine lv_goto (tgt := 39) hx hb dRun_callPrice_34 (by decide) ?_
        exact hret 40 (()) _ _ _ (by first | (rw [if_pos (Or.inr c19)]; done) | (rw [if_neg (fun z => z.elim (fun q => by omega) c19)]; done) | (rw [if_pos (Or.inl (by omega))]; done)) (hP.sub [0, 1, 2] rfl) (hD.sub [0, 1, 2] (by decide) rfl) hS dRun_callPrice_39

set_option maxHeartbeats 4000000 in
set_option maxRecDepth 100000 in
theorem kRun_priceOf (l : Launch) (dC : Nat → ClassId) (dI : Nat → Nat → Nat) (kI kJ kZ : ClassId) (r0 : Nat) (qc : Nat) (qb : Nat) (qs : Nat) (qk : Nat) (iv : Value) (rs : Nat) (ra : Nat) (rb : Nat) (cb : Int32) (kb : Int32) (ac : Nat) (cl : Int32) (vl : Int32) (gs : Nat) (pk : Nat) (en : Int32) (an : Int32) (rs1 : Nat) (sf : Nat → Int32) (sn : Nat) (qs1 : Nat) (qs2 : Nat) (qs3 : Nat) (qs4 : Nat) (kn : Nat) (ch : Nat) (sl : Nat → Int64) (nu : Nat → Int32) (σ : Int64 → Int32) (op : Nat) (hsn : sn ≤ 32) (hst : ST sl nu kn σ) (hop : op < 30) :
    XM stX l yRun_priceOf wRun_priceOf { frames := 3, cells := 0, slots := 0, locals := 70 } (dC, dI) xCl (x_T kI kJ kZ) [(r0, .inr (3, [.ref qc, .ref qb, .ref qs, .ref qk, iv, .ref rs, .ref ra, .ref rb, .int cb, .int kb, .int (nI ac), .int cl, .int vl, .int (nI gs), .int (nI pk), .int en, .int an])), (rs, .inr (2, [.ref rs1, .int (nI sn)])), (rs1, .inl (kI, 32, .inl sf)), (qs, .inr (4, [.ref qs1, .ref qs2, .int (nI kn), .ref qs3, .ref qs4, .int (nI ch)])), (qs1, .inl (kJ, 500, .inr (.inl sl))), (qs2, .inl (kI, 500, .inl nu))] [.ref r0, .int (nI op)] 0 0 x_eI (fun (r : Int32) (u : Unit) => r = if op = 19 then (if sn < 2 then 5 else if σ (xSlot (nI ac) (sf (sn - 1 - 1))) = sf (sn - 1) then 5 else if σ (xSlot (nI ac) (sf (sn - 1 - 1))) = 0 then 40 else 20) else if op = 27 then (if sn < 2 ∨ sf (sn - 1 - 1) = 0 then 25 else 40) else fPrice op) (fun (u : Unit) => [(r0, .inr (3, [.ref qc, .ref qb, .ref qs, .ref qk, iv, .ref rs, .ref ra, .ref rb, .int cb, .int kb, .int (nI ac), .int cl, .int vl, .int (nI gs), .int (nI pk), .int en, .int an])), (rs, .inr (2, [.ref rs1, .int (nI sn)])), (rs1, .inl (kI, 32, .inl sf)), (qs, .inr (4, [.ref qs1, .ref qs2, .int (nI kn), .ref qs3, .ref qs4, .int (nI ch)])), (qs1, .inl (kJ, 500, .inr (.inl sl))), (qs2, .inl (kI, 500, .inl nu))]) := by
  refine XM.ofI (cc := cRun_priceOf) (maxL := 2) (by decide) rfl (Nat.le_of_ble_eq_true rfl) ?_
  intro p e s m below meth c A Q hx hb hr hml hown hts hlocks hin hA hK hP hD hX hS ls hl hret
  have hl : lv_has ls 2 [(0, .ref r0), (1, .int (nI op))] := hl
  refine lv_iload_n hx hb dRun_priceOf_0 rfl (lv_at hl 1 rfl) ?_
  by_cases s19 : op = 19
  · refine lv_lookup (tgt := 28) (off := 27) hx hb dRun_priceOf_1 (by decide) (by rw [s19]; decide) (by decide) ?_
    refine lv_aload_n hx hb dRun_priceOf_28 rfl (lv_at hl 0 rfl) ?_
    refine XM.callVi (As := []) (rest := []) (wr := []) stX_ok ⟨hx, hb, hml, hown, hts⟩ (kRun_storePrice l dC dI kI kJ kZ r0 qc qb qs qk iv rs ra rb cb kb ac cl vl gs pk en an rs1 sf sn qs1 qs2 qs3 qs4 kn ch sl nu σ (by first | assumption | omega) (by first | assumption | omega)) (cwV 0 hts (x_gV gw504 gw506 gw8 gw42 gw507) rfl rfl rfl (by decide +kernel) ⟨Nat.le_of_ble_eq_true rfl, Nat.le_of_ble_eq_true rfl⟩) hK hP hD hS hA hX [0, 1, 2, 3, 4, 5] [] rfl rfl (by decide) (by decide) (by decide) rfl rfl rfl rfl hl.1 (Nat.le_of_ble_eq_true rfl) dRun_priceOf_29 ⟨Nat.le_of_ble_eq_true rfl, Nat.le_of_ble_eq_true rfl⟩ (fun r_2 u_1 H locs hw hP hD hS => ?_)
    obtain rfl := hw
    have hP : va_P (dC, dI) xCl [(r0, .inr (3, [.ref qc, .ref qb, .ref qs, .ref qk, iv, .ref rs, .ref ra, .ref rb, .int cb, .int kb, .int (nI ac), .int cl, .int vl, .int (nI gs), .int (nI pk), .int en, .int an])), (rs, .inr (2, [.ref rs1, .int (nI sn)])), (rs1, .inl (kI, 32, .inl sf)), (qs, .inr (4, [.ref qs1, .ref qs2, .int (nI kn), .ref qs3, .ref qs4, .int (nI ch)])), (qs1, .inl (kJ, 500, .inr (.inl sl))), (qs2, .inl (kI, 500, .inl nu))] H := hP
    have hD : va_D A [(r0, .inr (3, [.ref qc, .ref qb, .ref qs, .ref qk, iv, .ref rs, .ref ra, .ref rb, .int cb, .int kb, .int (nI ac), .int cl, .int vl, .int (nI gs), .int (nI pk), .int en, .int an])), (rs, .inr (2, [.ref rs1, .int (nI sn)])), (rs1, .inl (kI, 32, .inl sf)), (qs, .inr (4, [.ref qs1, .ref qs2, .int (nI kn), .ref qs3, .ref qs4, .int (nI ch)])), (qs1, .inl (kJ, 500, .inr (.inl sl))), (qs2, .inl (kI, 500, .inl nu))] := hD
    refine lv_goto (tgt := 49) hx hb dRun_priceOf_32 (by decide) ?_
    exact hret (if sn < 2 then 5 else if σ (xSlot (nI ac) (sf (sn - 1 - 1))) = sf (sn - 1) then 5 else if σ (xSlot (nI ac) (sf (sn - 1 - 1))) = 0 then 40 else 20) (()) _ _ _ (by first | (rw [if_pos s19]; done) | (rw [if_neg s19, if_pos s27]; done) | (rw [if_neg s19, if_neg s27]; done)) (hP.sub [0, 1, 2, 3, 4, 5] rfl) (hD.sub [0, 1, 2, 3, 4, 5] (by decide) rfl) hS dRun_priceOf_49
  by_cases s27 : op = 27
  · refine lv_lookup (tgt := 35) (off := 34) hx hb dRun_priceOf_1 (by decide) (by rw [s27]; decide) (by decide) ?_
    refine lv_aload_n hx hb dRun_priceOf_35 rfl (lv_at hl 0 rfl) ?_
    refine XM.callVi (As := []) (rest := []) (wr := [(qs, .inr (4, [.ref qs1, .ref qs2, .int (nI kn), .ref qs3, .ref qs4, .int (nI ch)])), (qs1, .inl (kJ, 500, .inr (.inl sl))), (qs2, .inl (kI, 500, .inl nu))]) stX_ok ⟨hx, hb, hml, hown, hts⟩ (kRun_callPrice l dC dI kI kJ kZ r0 qc qb qs qk iv rs ra rb cb kb ac cl vl gs pk en an rs1 sf sn (by first | assumption | omega)) (cwV 0 hts (x_gV gw528 gw530 gw10 gw42 gw531) rfl rfl rfl (by decide +kernel) ⟨Nat.le_of_ble_eq_true rfl, Nat.le_of_ble_eq_true rfl⟩) hK hP hD hS hA hX [0, 1, 2] [3, 4, 5] rfl rfl (by decide) (by decide) (by decide) rfl rfl rfl rfl hl.1 (Nat.le_of_ble_eq_true rfl) dRun_priceOf_36 ⟨Nat.le_of_ble_eq_true rfl, Nat.le_of_ble_eq_true rfl⟩ (fun r_4 u_3 H locs hw hP hD hS => ?_)
    obtain rfl := hw
    have hP : va_P (dC, dI) xCl [(qs, .inr (4, [.ref qs1, .ref qs2, .int (nI kn), .ref qs3, .ref qs4, .int (nI ch)])), (qs1, .inl (kJ, 500, .inr (.inl sl))), (qs2, .inl (kI, 500, .inl nu)), (r0, .inr (3, [.ref qc, .ref qb, .ref qs, .ref qk, iv, .ref rs, .ref ra, .ref rb, .int cb, .int kb, .int (nI ac), .int cl, .int vl, .int (nI gs), .int (nI pk), .int en, .int an])), (rs, .inr (2, [.ref rs1, .int (nI sn)])), (rs1, .inl (kI, 32, .inl sf))] H := hP
    have hD : va_D A [(qs, .inr (4, [.ref qs1, .ref qs2, .int (nI kn), .ref qs3, .ref qs4, .int (nI ch)])), (qs1, .inl (kJ, 500, .inr (.inl sl))), (qs2, .inl (kI, 500, .inl nu)), (r0, .inr (3, [.ref qc, .ref qb, .ref qs, .ref qk, iv, .ref rs, .ref ra, .ref rb, .int cb, .int kb, .int (nI ac), .int cl, .int vl, .int (nI gs), .int (nI pk), .int en, .int an])), (rs, .inr (2, [.ref rs1, .int (nI sn)])), (rs1, .inl (kI, 32, .inl sf))] := hD
    refine lv_goto (tgt := 49) hx hb dRun_priceOf_39 (by decide) ?_
    exact hret (if sn < 2 ∨ sf (sn - 1 - 1) = 0 then 25 else 40) (()) _ _ _ (by first | (rw [if_pos s19]; done) | (rw [if_neg s19, if_pos s27]; done) | (rw [if_neg s19, if_neg s27]; done)) (hP.sub [3, 4, 5, 0, 1, 2] rfl) (hD.sub [3, 4, 5, 0, 1, 2] (by decide) rfl) hS dRun_priceOf_49
  have q19 : ¬ nI op = 19 := fun z => s19 ((nI_eq (a := op) (b := 19) (by omega) (by omega)).mp z)
  have q27 : ¬ nI op = 27 := fun z => s27 ((nI_eq (a := op) (b := 27) (by omega) (by omega)).mp z)
  refine lv_lookup (tgt := 42) (off := 41) hx hb dRun_priceOf_1 (by decide) (by rw [lv_osw q19 (by decide)]; rw [lv_osw q27 (by decide)]; rfl) (by decide) ?_
  obtain ⟨tPRICES, hZPRICES, hTPRICES⟩ := hX.2.1
  refine va_getsN hx hb hZPRICES hS hown (hX.nest (w := .fieldLinkNest RRun 164 "CallLedger" "PRICES" "[I" "CallLedger") (by decide +kernel)) (fun _ h9 => h9) dRun_priceOf_42 ?_
  refine lv_iload_n hx hb dRun_priceOf_45 rfl (lv_at hl 1 rfl) ?_
  refine XM.callSi (As := [.ref tPRICES, .int (nI op)]) (rest := []) (wr := [(r0, .inr (3, [.ref qc, .ref qb, .ref qs, .ref qk, iv, .ref rs, .ref ra, .ref rb, .int cb, .int kb, .int (nI ac), .int cl, .int vl, .int (nI gs), .int (nI pk), .int en, .int an])), (rs, .inr (2, [.ref rs1, .int (nI sn)])), (rs1, .inl (kI, 32, .inl sf)), (qs, .inr (4, [.ref qs1, .ref qs2, .int (nI kn), .ref qs3, .ref qs4, .int (nI ch)])), (qs1, .inl (kJ, 500, .inr (.inl sl))), (qs2, .inl (kI, 500, .inl nu))]) (stT_ok tPRICES fPrice) ⟨hx, hb, hml, hown, hts⟩ (kRun_entry l dC dI kI kJ kZ tPRICES fPrice op (by first | assumption | omega)) (va_cwS 2 hts (x_gS gw533 gw534 gw42 gw535) rfl rfl rfl (by decide +kernel) ⟨Nat.le_of_ble_eq_true rfl, Nat.le_of_ble_eq_true rfl⟩) hK hP hD hS hA ⟨hX, hTPRICES⟩ [] [0, 1, 2, 3, 4, 5] rfl rfl (by decide) (by decide) (by decide) rfl rfl hl.1 (Nat.le_of_ble_eq_true rfl) dRun_priceOf_46 ⟨Nat.le_of_ble_eq_true rfl, Nat.le_of_ble_eq_true rfl⟩ (fun r_6 u_5 H locs hw hP hD hS => ?_)
  obtain rfl := hw
  have hP : va_P (dC, dI) xCl [(r0, .inr (3, [.ref qc, .ref qb, .ref qs, .ref qk, iv, .ref rs, .ref ra, .ref rb, .int cb, .int kb, .int (nI ac), .int cl, .int vl, .int (nI gs), .int (nI pk), .int en, .int an])), (rs, .inr (2, [.ref rs1, .int (nI sn)])), (rs1, .inl (kI, 32, .inl sf)), (qs, .inr (4, [.ref qs1, .ref qs2, .int (nI kn), .ref qs3, .ref qs4, .int (nI ch)])), (qs1, .inl (kJ, 500, .inr (.inl sl))), (qs2, .inl (kI, 500, .inl nu))] H := hP
  have hD : va_D A [(r0, .inr (3, [.ref qc, .ref qb, .ref qs, .ref qk, iv, .ref rs, .ref ra, .ref rb, .int cb, .int kb, .int (nI ac), .int cl, .int vl, .int (nI gs), .int (nI pk), .int en, .int an])), (rs, .inr (2, [.ref rs1, .int (nI sn)])), (rs1, .inl (kI, 32, .inl sf)), (qs, .inr (4, [.ref qs1, .ref qs2, .int (nI kn), .ref qs3, .ref qs4, .int (nI ch)])), (qs1, .inl (kJ, 500, .inr (.inl sl))), (qs2, .inl (kI, 500, .inl nu))] := hD
  exact hret (fPrice op) (()) _ _ _ (by first | (rw [if_pos s19]; done) | (rw [if_neg s19, if_pos s27]; done) | (rw [if_neg s19, if_neg s27]; done)) (hP.sub [0, 1, 2, 3, 4, 5] rfl) (hD.sub [0, 1, 2, 3, 4, 5] (by decide) rfl) hS dRun_priceOf_49

set_option maxHeartbeats 4000000 in
set_option maxRecDepth 100000 in
theorem kRun_compute (l : Launch) (dC : Nat → ClassId) (dI : Nat → Nat → Nat) (kI kJ kZ : ClassId) (r0 : Nat) (qc : Nat) (qb : Nat) (qs : Nat) (qk : Nat) (iv : Value) (rs : Nat) (ra : Nat) (rb : Nat) (cb : Int32) (kb : Int32) (ac : Nat) (cl : Int32) (vl : Int32) (gs : Nat) (pk : Nat) (en : Int32) (an : Int32) (rs1 : Nat) (sf : Nat → Int32) (sn : Nat) (op : Nat) (hsn : sn ≤ 32) (hn2 : 2 ≤ sn) (h5 : 5 ≤ op) (h15 : op ≤ 15) (h12 : op ≠ 12) :
    XM stX l yRun_compute wRun_compute { frames := 1, cells := 0, slots := 0, locals := 22 } (dC, dI) xCl (x_T kI kJ kZ) [(r0, .inr (3, [.ref qc, .ref qb, .ref qs, .ref qk, iv, .ref rs, .ref ra, .ref rb, .int cb, .int kb, .int (nI ac), .int cl, .int vl, .int (nI gs), .int (nI pk), .int en, .int an])), (rs, .inr (2, [.ref rs1, .int (nI sn)])), (rs1, .inl (kI, 32, .inl sf))] [.ref r0, .int (nI op)] 0 0 x_eV (fun (r : Unit) (u : Unit) => True) (fun (u : Unit) => [(r0, .inr (3, [.ref qc, .ref qb, .ref qs, .ref qk, iv, .ref rs, .ref ra, .ref rb, .int cb, .int kb, .int (nI ac), .int cl, .int vl, .int (nI gs), .int (nI pk), .int en, .int an])), (rs, .inr (2, [.ref rs1, .int (nI (sn - 1 - 1 + 1))])), (rs1, .inl (kI, 32, .inl (upd sf (sn - 1 - 1) (xComp op (sf (sn - 1 - 1)) (sf (sn - 1))))))]) := by
  refine XM.ofV (cc := cRun_compute) (maxL := 4) (by decide) rfl (Nat.le_of_ble_eq_true rfl) ?_
  intro p e s m below meth c A Q hx hb hr hml hown hts hlocks hin hA hK hP hD hX hS ls hl hret
  have hl : lv_has ls 4 [(0, .ref r0), (1, .int (nI op))] := hl
  refine lv_aload_n hx hb dRun_compute_0 rfl (lv_at hl 0 rfl) ?_
  refine va_get (D := (dC, dI)) (ci := 3) (v := .ref rs) (C := RRun) (T := TRun) (N := 17) hx hb hts (fun w h => List.mem_cons_of_mem _ (layRun w h)) hown hK hP 0 rfl rfl 5 (by decide) (hts (.fieldLink RRun 14 "CallLedger$Run" "stack" "LCallLedger$Row;") (List.mem_cons_of_mem _ gw145)) (fun _ h9 => h9) rfl dRun_compute_1 ?_
  refine XM.callVi (As := []) (rest := []) (wr := [(r0, .inr (3, [.ref qc, .ref qb, .ref qs, .ref qk, iv, .ref rs, .ref ra, .ref rb, .int cb, .int kb, .int (nI ac), .int cl, .int vl, .int (nI gs), .int (nI pk), .int en, .int an]))]) stX_ok ⟨hx, hb, hml, hown, hts⟩ (kRow_take l dC dI kI kJ kZ rs rs1 32 sn sf (by first | assumption | omega) (by first | assumption | omega) (by first | assumption | omega)) (cwV 0 hts (x_gV gw555 gw556 gw557 gw40 gw558) rfl rfl rfl (by decide +kernel) ⟨Nat.le_of_ble_eq_true rfl, Nat.le_of_ble_eq_true rfl⟩) hK hP hD hS hA hX [1, 2] [0] rfl rfl (by decide) (by decide) (by decide) rfl rfl rfl rfl hl.1 (Nat.le_of_ble_eq_true rfl) dRun_compute_4 ⟨Nat.le_of_ble_eq_true rfl, Nat.le_of_ble_eq_true rfl⟩ (fun r_2 u_1 H locs hw hP hD hS => ?_)
  obtain rfl := hw
  have hP : va_P (dC, dI) xCl [(r0, .inr (3, [.ref qc, .ref qb, .ref qs, .ref qk, iv, .ref rs, .ref ra, .ref rb, .int cb, .int kb, .int (nI ac), .int cl, .int vl, .int (nI gs), .int (nI pk), .int en, .int an])), (rs, .inr (2, [.ref rs1, .int (nI (sn - 1))])), (rs1, .inl (kI, 32, .inl sf))] H := hP
  have hD : va_D A [(r0, .inr (3, [.ref qc, .ref qb, .ref qs, .ref qk, iv, .ref rs, .ref ra, .ref rb, .int cb, .int kb, .int (nI ac), .int cl, .int vl, .int (nI gs), .int (nI pk), .int en, .int an])), (rs, .inr (2, [.ref rs1, .int (nI (sn - 1))])), (rs1, .inl (kI, 32, .inl sf))] := hD
  refine lv_istore_n (lv' := [(2, .int (sf (sn - 1))), (0, .ref r0), (1, .int (nI op))]) hx hb dRun_compute_7 rfl hl (by decide) rfl (fun ls hl => ?_)
  refine lv_aload_n hx hb dRun_compute_8 rfl (lv_at hl 1 rfl) ?_
  refine va_get (D := (dC, dI)) (ci := 3) (v := .ref rs) (C := RRun) (T := TRun) (N := 17) hx hb hts (fun w h => List.mem_cons_of_mem _ (layRun w h)) hown hK hP 0 rfl rfl 5 (by decide) (hts (.fieldLink RRun 14 "CallLedger$Run" "stack" "LCallLedger$Row;") (List.mem_cons_of_mem _ gw145)) (fun _ h9 => h9) rfl dRun_compute_9 ?_
  refine XM.callVi (As := []) (rest := []) (wr := [(r0, .inr (3, [.ref qc, .ref qb, .ref qs, .ref qk, iv, .ref rs, .ref ra, .ref rb, .int cb, .int kb, .int (nI ac), .int cl, .int vl, .int (nI gs), .int (nI pk), .int en, .int an]))]) stX_ok ⟨hx, hb, hml, hown, hts⟩ (kRow_take l dC dI kI kJ kZ rs rs1 32 (sn - 1) sf (by first | assumption | omega) (by first | assumption | omega) (by first | assumption | omega)) (cwV 0 hts (x_gV gw555 gw556 gw557 gw40 gw558) rfl rfl rfl (by decide +kernel) ⟨Nat.le_of_ble_eq_true rfl, Nat.le_of_ble_eq_true rfl⟩) hK hP hD hS hA hX [1, 2] [0] rfl rfl (by decide) (by decide) (by decide) rfl rfl rfl rfl hl.1 (Nat.le_of_ble_eq_true rfl) dRun_compute_12 ⟨Nat.le_of_ble_eq_true rfl, Nat.le_of_ble_eq_true rfl⟩ (fun r_4 u_3 H locs hw hP hD hS => ?_)
  obtain rfl := hw
  have hP : va_P (dC, dI) xCl [(r0, .inr (3, [.ref qc, .ref qb, .ref qs, .ref qk, iv, .ref rs, .ref ra, .ref rb, .int cb, .int kb, .int (nI ac), .int cl, .int vl, .int (nI gs), .int (nI pk), .int en, .int an])), (rs, .inr (2, [.ref rs1, .int (nI ((sn - 1) - 1))])), (rs1, .inl (kI, 32, .inl sf))] H := hP
  have hD : va_D A [(r0, .inr (3, [.ref qc, .ref qb, .ref qs, .ref qk, iv, .ref rs, .ref ra, .ref rb, .int cb, .int kb, .int (nI ac), .int cl, .int vl, .int (nI gs), .int (nI pk), .int en, .int an])), (rs, .inr (2, [.ref rs1, .int (nI ((sn - 1) - 1))])), (rs1, .inl (kI, 32, .inl sf))] := hD
  refine lv_istore_n (lv' := [(3, .int (sf ((sn - 1) - 1))), (2, .int (sf (sn - 1))), (0, .ref r0), (1, .int (nI op))]) hx hb dRun_compute_15 rfl hl (by decide) rfl (fun ls hl => ?_)
  refine lv_aload_n hx hb dRun_compute_16 rfl (lv_at hl 2 rfl) ?_
  refine va_get (D := (dC, dI)) (ci := 3) (v := .ref rs) (C := RRun) (T := TRun) (N := 17) hx hb hts (fun w h => List.mem_cons_of_mem _ (layRun w h)) hown hK hP 0 rfl rfl 5 (by decide) (hts (.fieldLink RRun 14 "CallLedger$Run" "stack" "LCallLedger$Row;") (List.mem_cons_of_mem _ gw145)) (fun _ h9 => h9) rfl dRun_compute_17 ?_
  refine lv_iload_n hx hb dRun_compute_20 rfl (lv_at hl 3 rfl) ?_
  refine lv_iload_n hx hb dRun_compute_21 rfl (lv_at hl 0 rfl) ?_
  refine lv_iload_n hx hb dRun_compute_22 rfl (lv_at hl 1 rfl) ?_
  refine XM.callSi (As := [.int (nI op), .int (sf ((sn - 1) - 1)), .int (sf (sn - 1))]) (rest := [.ref rs]) (wr := [(r0, .inr (3, [.ref qc, .ref qb, .ref qs, .ref qk, iv, .ref rs, .ref ra, .ref rb, .int cb, .int kb, .int (nI ac), .int cl, .int vl, .int (nI gs), .int (nI pk), .int en, .int an])), (rs, .inr (2, [.ref rs1, .int (nI ((sn - 1) - 1))])), (rs1, .inl (kI, 32, .inl sf))]) stX_ok ⟨hx, hb, hml, hown, hts⟩ (kRun_computed l dC dI kI kJ kZ op (sf ((sn - 1) - 1)) (sf (sn - 1)) (by first | assumption | omega) (by first | assumption | omega) (by first | assumption | omega)) (va_cwS 3 hts (x_gS gw597 gw598 gw42 gw599) rfl rfl rfl (by decide +kernel) ⟨Nat.le_of_ble_eq_true rfl, Nat.le_of_ble_eq_true rfl⟩) hK hP hD hS hA hX [] [0, 1, 2] rfl rfl (by decide) (by decide) (by decide) rfl rfl hl.1 (Nat.le_of_ble_eq_true rfl) dRun_compute_23 ⟨Nat.le_of_ble_eq_true rfl, Nat.le_of_ble_eq_true rfl⟩ (fun r_6 u_5 H locs hw hP hD hS => ?_)
  obtain rfl := hw
  have hP : va_P (dC, dI) xCl [(r0, .inr (3, [.ref qc, .ref qb, .ref qs, .ref qk, iv, .ref rs, .ref ra, .ref rb, .int cb, .int kb, .int (nI ac), .int cl, .int vl, .int (nI gs), .int (nI pk), .int en, .int an])), (rs, .inr (2, [.ref rs1, .int (nI ((sn - 1) - 1))])), (rs1, .inl (kI, 32, .inl sf))] H := hP
  have hD : va_D A [(r0, .inr (3, [.ref qc, .ref qb, .ref qs, .ref qk, iv, .ref rs, .ref ra, .ref rb, .int cb, .int kb, .int (nI ac), .int cl, .int vl, .int (nI gs), .int (nI pk), .int en, .int an])), (rs, .inr (2, [.ref rs1, .int (nI ((sn - 1) - 1))])), (rs1, .inl (kI, 32, .inl sf))] := hD
  refine XM.callVv (As := [.int (xComp op (sf ((sn - 1) - 1)) (sf (sn - 1)))]) (rest := []) (wr := [(r0, .inr (3, [.ref qc, .ref qb, .ref qs, .ref qk, iv, .ref rs, .ref ra, .ref rb, .int cb, .int kb, .int (nI ac), .int cl, .int vl, .int (nI gs), .int (nI pk), .int en, .int an]))]) stX_ok ⟨hx, hb, hml, hown, hts⟩ (kRow_add l dC dI kI kJ kZ rs rs1 32 ((sn - 1) - 1) sf (xComp op (sf ((sn - 1) - 1)) (sf (sn - 1))) (by first | assumption | omega) (by first | assumption | omega) (by first | assumption | omega)) (cwV 1 hts (x_gV gw554 gw227 gw228 gw40 gw229) rfl rfl rfl (by decide +kernel) ⟨Nat.le_of_ble_eq_true rfl, Nat.le_of_ble_eq_true rfl⟩) hK hP hD hS hA hX [1, 2] [0] rfl rfl (by decide) (by decide) (by decide) rfl rfl rfl rfl hl.1 (Nat.le_of_ble_eq_true rfl) dRun_compute_26 ⟨Nat.le_of_ble_eq_true rfl, Nat.le_of_ble_eq_true rfl⟩ (fun u_7 H locs hw hP hD hS => ?_)
  have hP : va_P (dC, dI) xCl [(r0, .inr (3, [.ref qc, .ref qb, .ref qs, .ref qk, iv, .ref rs, .ref ra, .ref rb, .int cb, .int kb, .int (nI ac), .int cl, .int vl, .int (nI gs), .int (nI pk), .int en, .int an])), (rs, .inr (2, [.ref rs1, .int (nI (((sn - 1) - 1) + 1))])), (rs1, .inl (kI, 32, .inl (upd sf ((sn - 1) - 1) (xComp op (sf ((sn - 1) - 1)) (sf (sn - 1))))))] H := hP
  have hD : va_D A [(r0, .inr (3, [.ref qc, .ref qb, .ref qs, .ref qk, iv, .ref rs, .ref ra, .ref rb, .int cb, .int kb, .int (nI ac), .int cl, .int vl, .int (nI gs), .int (nI pk), .int en, .int an])), (rs, .inr (2, [.ref rs1, .int (nI (((sn - 1) - 1) + 1))])), (rs1, .inl (kI, 32, .inl (upd sf ((sn - 1) - 1) (xComp op (sf ((sn - 1) - 1)) (sf (sn - 1))))))] := hD
  exact hret  (()) _ _ _ (trivial) (hP.sub [0, 1, 2] rfl) (hD.sub [0, 1, 2] (by decide) rfl) hS dRun_compute_29

