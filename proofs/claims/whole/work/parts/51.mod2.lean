theorem dMod_stored_0 : decode cMod_stored 0 = .ok (.aload_n 0, 1) := by decide +kernel
theorem dMod_stored_1 : decode cMod_stored 1 = .ok (.iload_n 1, 1) := by decide +kernel
theorem dMod_stored_2 : decode cMod_stored 2 = .ok (.iload_n 2, 1) := by decide +kernel
theorem dMod_stored_3 : decode cMod_stored 3 = .ok (.invokevirtual 110, 3) := by decide +kernel
theorem dMod_stored_6 : decode cMod_stored 6 = .ok (.istore_n 3, 1) := by decide +kernel
theorem dMod_stored_7 : decode cMod_stored 7 = .ok (.iload_n 3, 1) := by decide +kernel
theorem dMod_stored_8 : decode cMod_stored 8 = .ok (.ifCond .ge 7, 3) := by decide +kernel
theorem dMod_stored_11 : decode cMod_stored 11 = .ok (.iconst 0, 1) := by decide +kernel
theorem dMod_stored_12 : decode cMod_stored 12 = .ok (.goto 9, 3) := by decide +kernel
theorem dMod_stored_15 : decode cMod_stored 15 = .ok (.aload_n 0, 1) := by decide +kernel
theorem dMod_stored_16 : decode cMod_stored 16 = .ok (.getfield 29, 3) := by decide +kernel
theorem dMod_stored_19 : decode cMod_stored 19 = .ok (.iload_n 3, 1) := by decide +kernel
theorem dMod_stored_20 : decode cMod_stored 20 = .ok (.iaload, 1) := by decide +kernel
theorem dMod_stored_21 : decode cMod_stored 21 = .ok (.ireturn, 1) := by decide +kernel
theorem dMod_store_0 : decode cMod_store 0 = .ok (.aload_n 0, 1) := by decide +kernel
theorem dMod_store_1 : decode cMod_store 1 = .ok (.iload_n 1, 1) := by decide +kernel
theorem dMod_store_2 : decode cMod_store 2 = .ok (.iload_n 2, 1) := by decide +kernel
theorem dMod_store_3 : decode cMod_store 3 = .ok (.invokevirtual 110, 3) := by decide +kernel
theorem dMod_store_6 : decode cMod_store 6 = .ok (.istore 4, 2) := by decide +kernel
theorem dMod_store_8 : decode cMod_store 8 = .ok (.iload 4, 2) := by decide +kernel
theorem dMod_store_10 : decode cMod_store 10 = .ok (.ifCond .ge 50, 3) := by decide +kernel
theorem dMod_store_13 : decode cMod_store 13 = .ok (.iload_n 3, 1) := by decide +kernel
theorem dMod_store_14 : decode cMod_store 14 = .ok (.ifCond .eq 46, 3) := by decide +kernel
theorem dMod_store_17 : decode cMod_store 17 = .ok (.aload_n 0, 1) := by decide +kernel
theorem dMod_store_18 : decode cMod_store 18 = .ok (.getfield 23, 3) := by decide +kernel
theorem dMod_store_21 : decode cMod_store 21 = .ok (.aload_n 0, 1) := by decide +kernel
theorem dMod_store_22 : decode cMod_store 22 = .ok (.getfield 107, 3) := by decide +kernel
theorem dMod_store_25 : decode cMod_store 25 = .ok (.iload_n 1, 1) := by decide +kernel
theorem dMod_store_26 : decode cMod_store 26 = .ok (.iastore, 1) := by decide +kernel
theorem dMod_store_27 : decode cMod_store 27 = .ok (.aload_n 0, 1) := by decide +kernel
theorem dMod_store_28 : decode cMod_store 28 = .ok (.getfield 26, 3) := by decide +kernel
theorem dMod_store_31 : decode cMod_store 31 = .ok (.aload_n 0, 1) := by decide +kernel
theorem dMod_store_32 : decode cMod_store 32 = .ok (.getfield 107, 3) := by decide +kernel
theorem dMod_store_35 : decode cMod_store 35 = .ok (.iload_n 2, 1) := by decide +kernel
theorem dMod_store_36 : decode cMod_store 36 = .ok (.iastore, 1) := by decide +kernel
theorem dMod_store_37 : decode cMod_store 37 = .ok (.aload_n 0, 1) := by decide +kernel
theorem dMod_store_38 : decode cMod_store 38 = .ok (.getfield 29, 3) := by decide +kernel
theorem dMod_store_41 : decode cMod_store 41 = .ok (.aload_n 0, 1) := by decide +kernel
theorem dMod_store_42 : decode cMod_store 42 = .ok (.getfield 107, 3) := by decide +kernel
theorem dMod_store_45 : decode cMod_store 45 = .ok (.iload_n 3, 1) := by decide +kernel
theorem dMod_store_46 : decode cMod_store 46 = .ok (.iastore, 1) := by decide +kernel
theorem dMod_store_47 : decode cMod_store 47 = .ok (.aload_n 0, 1) := by decide +kernel
theorem dMod_store_48 : decode cMod_store 48 = .ok (.dup, 1) := by decide +kernel
theorem dMod_store_49 : decode cMod_store 49 = .ok (.getfield 107, 3) := by decide +kernel
theorem dMod_store_52 : decode cMod_store 52 = .ok (.iconst 1, 1) := by decide +kernel
theorem dMod_store_53 : decode cMod_store 53 = .ok (.iadd, 1) := by decide +kernel
theorem dMod_store_54 : decode cMod_store 54 = .ok (.putfield 107, 3) := by decide +kernel
theorem dMod_store_57 : decode cMod_store 57 = .ok (.goto 86, 3) := by decide +kernel
theorem dMod_store_60 : decode cMod_store 60 = .ok (.iload 4, 2) := by decide +kernel
theorem dMod_store_62 : decode cMod_store 62 = .ok (.ifCond .lt 68, 3) := by decide +kernel
theorem dMod_store_65 : decode cMod_store 65 = .ok (.iload_n 3, 1) := by decide +kernel
theorem dMod_store_66 : decode cMod_store 66 = .ok (.ifCond .ne 64, 3) := by decide +kernel
theorem dMod_store_69 : decode cMod_store 69 = .ok (.aload_n 0, 1) := by decide +kernel
theorem dMod_store_70 : decode cMod_store 70 = .ok (.dup, 1) := by decide +kernel
theorem dMod_store_71 : decode cMod_store 71 = .ok (.getfield 107, 3) := by decide +kernel
theorem dMod_store_74 : decode cMod_store 74 = .ok (.iconst 1, 1) := by decide +kernel
theorem dMod_store_75 : decode cMod_store 75 = .ok (.isub, 1) := by decide +kernel
theorem dMod_store_76 : decode cMod_store 76 = .ok (.putfield 107, 3) := by decide +kernel
theorem dMod_store_79 : decode cMod_store 79 = .ok (.aload_n 0, 1) := by decide +kernel
theorem dMod_store_80 : decode cMod_store 80 = .ok (.getfield 23, 3) := by decide +kernel
theorem dMod_store_83 : decode cMod_store 83 = .ok (.iload 4, 2) := by decide +kernel
theorem dMod_store_85 : decode cMod_store 85 = .ok (.aload_n 0, 1) := by decide +kernel
theorem dMod_store_86 : decode cMod_store 86 = .ok (.getfield 23, 3) := by decide +kernel
theorem dMod_store_89 : decode cMod_store 89 = .ok (.aload_n 0, 1) := by decide +kernel
theorem dMod_store_90 : decode cMod_store 90 = .ok (.getfield 107, 3) := by decide +kernel
theorem dMod_store_93 : decode cMod_store 93 = .ok (.iaload, 1) := by decide +kernel
theorem dMod_store_94 : decode cMod_store 94 = .ok (.iastore, 1) := by decide +kernel
theorem dMod_store_95 : decode cMod_store 95 = .ok (.aload_n 0, 1) := by decide +kernel
theorem dMod_store_96 : decode cMod_store 96 = .ok (.getfield 26, 3) := by decide +kernel
theorem dMod_store_99 : decode cMod_store 99 = .ok (.iload 4, 2) := by decide +kernel
theorem dMod_store_101 : decode cMod_store 101 = .ok (.aload_n 0, 1) := by decide +kernel
theorem dMod_store_102 : decode cMod_store 102 = .ok (.getfield 26, 3) := by decide +kernel
theorem dMod_store_105 : decode cMod_store 105 = .ok (.aload_n 0, 1) := by decide +kernel
theorem dMod_store_106 : decode cMod_store 106 = .ok (.getfield 107, 3) := by decide +kernel
theorem dMod_store_109 : decode cMod_store 109 = .ok (.iaload, 1) := by decide +kernel
theorem dMod_store_110 : decode cMod_store 110 = .ok (.iastore, 1) := by decide +kernel
theorem dMod_store_111 : decode cMod_store 111 = .ok (.aload_n 0, 1) := by decide +kernel
theorem dMod_store_112 : decode cMod_store 112 = .ok (.getfield 29, 3) := by decide +kernel
theorem dMod_store_115 : decode cMod_store 115 = .ok (.iload 4, 2) := by decide +kernel
theorem dMod_store_117 : decode cMod_store 117 = .ok (.aload_n 0, 1) := by decide +kernel
theorem dMod_store_118 : decode cMod_store 118 = .ok (.getfield 29, 3) := by decide +kernel
theorem dMod_store_121 : decode cMod_store 121 = .ok (.aload_n 0, 1) := by decide +kernel
theorem dMod_store_122 : decode cMod_store 122 = .ok (.getfield 107, 3) := by decide +kernel
theorem dMod_store_125 : decode cMod_store 125 = .ok (.iaload, 1) := by decide +kernel
theorem dMod_store_126 : decode cMod_store 126 = .ok (.iastore, 1) := by decide +kernel
theorem dMod_store_127 : decode cMod_store 127 = .ok (.goto 16, 3) := by decide +kernel
theorem dMod_store_130 : decode cMod_store 130 = .ok (.iload 4, 2) := by decide +kernel
theorem dMod_store_132 : decode cMod_store 132 = .ok (.ifCond .lt 11, 3) := by decide +kernel
theorem dMod_store_135 : decode cMod_store 135 = .ok (.aload_n 0, 1) := by decide +kernel
theorem dMod_store_136 : decode cMod_store 136 = .ok (.getfield 29, 3) := by decide +kernel
theorem dMod_store_139 : decode cMod_store 139 = .ok (.iload 4, 2) := by decide +kernel
theorem dMod_store_141 : decode cMod_store 141 = .ok (.iload_n 3, 1) := by decide +kernel
theorem dMod_store_142 : decode cMod_store 142 = .ok (.iastore, 1) := by decide +kernel
theorem dMod_store_143 : decode cMod_store 143 = .ok (.return_, 1) := by decide +kernel
theorem dMod_storage_0 : decode cMod_storage 0 = .ok (.aload_n 0, 1) := by decide +kernel
theorem dMod_storage_1 : decode cMod_storage 1 = .ok (.aload_n 0, 1) := by decide +kernel
theorem dMod_storage_2 : decode cMod_storage 2 = .ok (.iload_n 1, 1) := by decide +kernel
theorem dMod_storage_3 : decode cMod_storage 3 = .ok (.invokevirtual 96, 3) := by decide +kernel
theorem dMod_storage_6 : decode cMod_storage 6 = .ok (.ifCond .eq 7, 3) := by decide +kernel
theorem dMod_storage_9 : decode cMod_storage 9 = .ok (.iconst 1, 1) := by decide +kernel
theorem dMod_storage_10 : decode cMod_storage 10 = .ok (.goto 4, 3) := by decide +kernel
theorem dMod_storage_13 : decode cMod_storage 13 = .ok (.iconst 0, 1) := by decide +kernel
theorem dMod_storage_14 : decode cMod_storage 14 = .ok (.putfield 83, 3) := by decide +kernel
theorem dMod_storage_17 : decode cMod_storage 17 = .ok (.aload_n 0, 1) := by decide +kernel
theorem dMod_storage_18 : decode cMod_storage 18 = .ok (.getfield 83, 3) := by decide +kernel
theorem dMod_storage_21 : decode cMod_storage 21 = .ok (.ifCond .le 7, 3) := by decide +kernel
theorem dMod_storage_24 : decode cMod_storage 24 = .ok (.iconst 0, 1) := by decide +kernel
theorem dMod_storage_25 : decode cMod_storage 25 = .ok (.goto 9, 3) := by decide +kernel
theorem dMod_storage_28 : decode cMod_storage 28 = .ok (.aload_n 0, 1) := by decide +kernel
theorem dMod_storage_29 : decode cMod_storage 29 = .ok (.iload_n 1, 1) := by decide +kernel
theorem dMod_storage_30 : decode cMod_storage 30 = .ok (.iload_n 2, 1) := by decide +kernel
theorem dMod_storage_31 : decode cMod_storage 31 = .ok (.invokevirtual 114, 3) := by decide +kernel
theorem dMod_storage_34 : decode cMod_storage 34 = .ok (.ireturn, 1) := by decide +kernel
theorem dMod_log_0 : decode cMod_log 0 = .ok (.aload_n 0, 1) := by decide +kernel
theorem dMod_log_1 : decode cMod_log 1 = .ok (.iload_n 1, 1) := by decide +kernel
theorem dMod_log_2 : decode cMod_log 2 = .ok (.ifCond .lt 11, 3) := by decide +kernel
theorem dMod_log_5 : decode cMod_log 5 = .ok (.iload_n 1, 1) := by decide +kernel
theorem dMod_log_6 : decode cMod_log 6 = .ok (.aload_n 0, 1) := by decide +kernel
theorem dMod_log_7 : decode cMod_log 7 = .ok (.getfield 117, 3) := by decide +kernel
theorem dMod_log_10 : decode cMod_log 10 = .ok (.if_icmp .lt 7, 3) := by decide +kernel
theorem dMod_log_13 : decode cMod_log 13 = .ok (.iconst 1, 1) := by decide +kernel
theorem dMod_log_14 : decode cMod_log 14 = .ok (.goto 4, 3) := by decide +kernel
theorem dMod_log_17 : decode cMod_log 17 = .ok (.iconst 0, 1) := by decide +kernel
theorem dMod_log_18 : decode cMod_log 18 = .ok (.putfield 83, 3) := by decide +kernel
theorem dMod_log_21 : decode cMod_log 21 = .ok (.aload_n 0, 1) := by decide +kernel
theorem dMod_log_22 : decode cMod_log 22 = .ok (.getfield 83, 3) := by decide +kernel
theorem dMod_log_25 : decode cMod_log 25 = .ok (.ifCond .le 7, 3) := by decide +kernel
theorem dMod_log_28 : decode cMod_log 28 = .ok (.iconst 0, 1) := by decide +kernel
theorem dMod_log_29 : decode cMod_log 29 = .ok (.goto 9, 3) := by decide +kernel
theorem dMod_log_32 : decode cMod_log 32 = .ok (.aload_n 0, 1) := by decide +kernel
theorem dMod_log_33 : decode cMod_log 33 = .ok (.getfield 32, 3) := by decide +kernel
theorem dMod_log_36 : decode cMod_log 36 = .ok (.iload_n 1, 1) := by decide +kernel
theorem dMod_log_37 : decode cMod_log 37 = .ok (.iaload, 1) := by decide +kernel
theorem dMod_log_38 : decode cMod_log 38 = .ok (.ireturn, 1) := by decide +kernel
theorem dMod_begin_0 : decode cMod_begin 0 = .ok (.iconst 0, 1) := by decide +kernel
theorem dMod_begin_1 : decode cMod_begin 1 = .ok (.istore 5, 2) := by decide +kernel
theorem dMod_begin_3 : decode cMod_begin 3 = .ok (.iload 5, 2) := by decide +kernel
theorem dMod_begin_5 : decode cMod_begin 5 = .ok (.bipush 24, 2) := by decide +kernel
theorem dMod_begin_7 : decode cMod_begin 7 = .ok (.if_icmp .ge 31, 3) := by decide +kernel
theorem dMod_begin_10 : decode cMod_begin 10 = .ok (.aload_n 0, 1) := by decide +kernel
theorem dMod_begin_11 : decode cMod_begin 11 = .ok (.getfield 35, 3) := by decide +kernel
theorem dMod_begin_14 : decode cMod_begin 14 = .ok (.bipush 24, 2) := by decide +kernel
theorem dMod_begin_16 : decode cMod_begin 16 = .ok (.aload_n 0, 1) := by decide +kernel
theorem dMod_begin_17 : decode cMod_begin 17 = .ok (.getfield 126, 3) := by decide +kernel
theorem dMod_begin_20 : decode cMod_begin 20 = .ok (.imul, 1) := by decide +kernel
theorem dMod_begin_21 : decode cMod_begin 21 = .ok (.iload 5, 2) := by decide +kernel
theorem dMod_begin_23 : decode cMod_begin 23 = .ok (.iadd, 1) := by decide +kernel
theorem dMod_begin_24 : decode cMod_begin 24 = .ok (.aload_n 0, 1) := by decide +kernel
theorem dMod_begin_25 : decode cMod_begin 25 = .ok (.getfield 7, 3) := by decide +kernel
theorem dMod_begin_28 : decode cMod_begin 28 = .ok (.iload 5, 2) := by decide +kernel
theorem dMod_begin_30 : decode cMod_begin 30 = .ok (.iaload, 1) := by decide +kernel
theorem dMod_begin_31 : decode cMod_begin 31 = .ok (.iastore, 1) := by decide +kernel
theorem dMod_begin_32 : decode cMod_begin 32 = .ok (.iinc 5 1, 3) := by decide +kernel
theorem dMod_begin_35 : decode cMod_begin 35 = .ok (.goto (-32), 3) := by decide +kernel
theorem dMod_begin_38 : decode cMod_begin 38 = .ok (.iconst 0, 1) := by decide +kernel
theorem dMod_begin_39 : decode cMod_begin 39 = .ok (.istore 5, 2) := by decide +kernel
theorem dMod_begin_41 : decode cMod_begin 41 = .ok (.iload 5, 2) := by decide +kernel
theorem dMod_begin_43 : decode cMod_begin 43 = .ok (.aload_n 0, 1) := by decide +kernel
theorem dMod_begin_44 : decode cMod_begin 44 = .ok (.getfield 107, 3) := by decide +kernel
theorem dMod_begin_47 : decode cMod_begin 47 = .ok (.if_icmp .ge 78, 3) := by decide +kernel
theorem dMod_begin_50 : decode cMod_begin 50 = .ok (.aload_n 0, 1) := by decide +kernel
theorem dMod_begin_51 : decode cMod_begin 51 = .ok (.getfield 38, 3) := by decide +kernel
theorem dMod_begin_54 : decode cMod_begin 54 = .ok (.sipush 500, 3) := by decide +kernel
theorem dMod_begin_57 : decode cMod_begin 57 = .ok (.aload_n 0, 1) := by decide +kernel
theorem dMod_begin_58 : decode cMod_begin 58 = .ok (.getfield 126, 3) := by decide +kernel
theorem dMod_begin_61 : decode cMod_begin 61 = .ok (.imul, 1) := by decide +kernel
theorem dMod_begin_62 : decode cMod_begin 62 = .ok (.iload 5, 2) := by decide +kernel
theorem dMod_begin_64 : decode cMod_begin 64 = .ok (.iadd, 1) := by decide +kernel
theorem dMod_begin_65 : decode cMod_begin 65 = .ok (.aload_n 0, 1) := by decide +kernel
theorem dMod_begin_66 : decode cMod_begin 66 = .ok (.getfield 23, 3) := by decide +kernel
theorem dMod_begin_69 : decode cMod_begin 69 = .ok (.iload 5, 2) := by decide +kernel
theorem dMod_begin_71 : decode cMod_begin 71 = .ok (.iaload, 1) := by decide +kernel
theorem dMod_begin_72 : decode cMod_begin 72 = .ok (.iastore, 1) := by decide +kernel
theorem dMod_begin_73 : decode cMod_begin 73 = .ok (.aload_n 0, 1) := by decide +kernel
theorem dMod_begin_74 : decode cMod_begin 74 = .ok (.getfield 41, 3) := by decide +kernel
theorem dMod_begin_77 : decode cMod_begin 77 = .ok (.sipush 500, 3) := by decide +kernel
theorem dMod_begin_80 : decode cMod_begin 80 = .ok (.aload_n 0, 1) := by decide +kernel
theorem dMod_begin_81 : decode cMod_begin 81 = .ok (.getfield 126, 3) := by decide +kernel
theorem dMod_begin_84 : decode cMod_begin 84 = .ok (.imul, 1) := by decide +kernel
theorem dMod_begin_85 : decode cMod_begin 85 = .ok (.iload 5, 2) := by decide +kernel
theorem dMod_begin_87 : decode cMod_begin 87 = .ok (.iadd, 1) := by decide +kernel
theorem dMod_begin_88 : decode cMod_begin 88 = .ok (.aload_n 0, 1) := by decide +kernel
theorem dMod_begin_89 : decode cMod_begin 89 = .ok (.getfield 26, 3) := by decide +kernel
theorem dMod_begin_92 : decode cMod_begin 92 = .ok (.iload 5, 2) := by decide +kernel
theorem dMod_begin_94 : decode cMod_begin 94 = .ok (.iaload, 1) := by decide +kernel
theorem dMod_begin_95 : decode cMod_begin 95 = .ok (.iastore, 1) := by decide +kernel
theorem dMod_begin_96 : decode cMod_begin 96 = .ok (.aload_n 0, 1) := by decide +kernel
theorem dMod_begin_97 : decode cMod_begin 97 = .ok (.getfield 44, 3) := by decide +kernel
theorem dMod_begin_100 : decode cMod_begin 100 = .ok (.sipush 500, 3) := by decide +kernel
theorem dMod_begin_103 : decode cMod_begin 103 = .ok (.aload_n 0, 1) := by decide +kernel
theorem dMod_begin_104 : decode cMod_begin 104 = .ok (.getfield 126, 3) := by decide +kernel
theorem dMod_begin_107 : decode cMod_begin 107 = .ok (.imul, 1) := by decide +kernel
theorem dMod_begin_108 : decode cMod_begin 108 = .ok (.iload 5, 2) := by decide +kernel
theorem dMod_begin_110 : decode cMod_begin 110 = .ok (.iadd, 1) := by decide +kernel
theorem dMod_begin_111 : decode cMod_begin 111 = .ok (.aload_n 0, 1) := by decide +kernel
theorem dMod_begin_112 : decode cMod_begin 112 = .ok (.getfield 29, 3) := by decide +kernel
theorem dMod_begin_115 : decode cMod_begin 115 = .ok (.iload 5, 2) := by decide +kernel
theorem dMod_begin_117 : decode cMod_begin 117 = .ok (.iaload, 1) := by decide +kernel
theorem dMod_begin_118 : decode cMod_begin 118 = .ok (.iastore, 1) := by decide +kernel
theorem dMod_begin_119 : decode cMod_begin 119 = .ok (.iinc 5 1, 3) := by decide +kernel
theorem dMod_begin_122 : decode cMod_begin 122 = .ok (.goto (-81), 3) := by decide +kernel
theorem dMod_begin_125 : decode cMod_begin 125 = .ok (.aload_n 0, 1) := by decide +kernel
theorem dMod_begin_126 : decode cMod_begin 126 = .ok (.getfield 47, 3) := by decide +kernel
theorem dMod_begin_129 : decode cMod_begin 129 = .ok (.aload_n 0, 1) := by decide +kernel
theorem dMod_begin_130 : decode cMod_begin 130 = .ok (.getfield 126, 3) := by decide +kernel
theorem dMod_begin_133 : decode cMod_begin 133 = .ok (.aload_n 0, 1) := by decide +kernel
theorem dMod_begin_134 : decode cMod_begin 134 = .ok (.getfield 107, 3) := by decide +kernel
theorem dMod_begin_137 : decode cMod_begin 137 = .ok (.iastore, 1) := by decide +kernel
theorem dMod_begin_138 : decode cMod_begin 138 = .ok (.aload_n 0, 1) := by decide +kernel
theorem dMod_begin_139 : decode cMod_begin 139 = .ok (.getfield 50, 3) := by decide +kernel
theorem dMod_begin_142 : decode cMod_begin 142 = .ok (.aload_n 0, 1) := by decide +kernel
theorem dMod_begin_143 : decode cMod_begin 143 = .ok (.getfield 126, 3) := by decide +kernel
theorem dMod_begin_146 : decode cMod_begin 146 = .ok (.aload_n 0, 1) := by decide +kernel
theorem dMod_begin_147 : decode cMod_begin 147 = .ok (.getfield 117, 3) := by decide +kernel
theorem dMod_begin_150 : decode cMod_begin 150 = .ok (.iastore, 1) := by decide +kernel
theorem dMod_begin_151 : decode cMod_begin 151 = .ok (.aload_n 0, 1) := by decide +kernel
theorem dMod_begin_152 : decode cMod_begin 152 = .ok (.getfield 7, 3) := by decide +kernel
theorem dMod_begin_155 : decode cMod_begin 155 = .ok (.iload_n 1, 1) := by decide +kernel
theorem dMod_begin_156 : decode cMod_begin 156 = .ok (.aload_n 0, 1) := by decide +kernel
theorem dMod_begin_157 : decode cMod_begin 157 = .ok (.getfield 7, 3) := by decide +kernel
theorem dMod_begin_160 : decode cMod_begin 160 = .ok (.iload_n 1, 1) := by decide +kernel
theorem dMod_begin_161 : decode cMod_begin 161 = .ok (.iaload, 1) := by decide +kernel
theorem dMod_begin_162 : decode cMod_begin 162 = .ok (.iload_n 3, 1) := by decide +kernel
theorem dMod_begin_163 : decode cMod_begin 163 = .ok (.isub, 1) := by decide +kernel
theorem dMod_begin_164 : decode cMod_begin 164 = .ok (.iastore, 1) := by decide +kernel
theorem dMod_begin_165 : decode cMod_begin 165 = .ok (.aload_n 0, 1) := by decide +kernel
theorem dMod_begin_166 : decode cMod_begin 166 = .ok (.getfield 7, 3) := by decide +kernel
theorem dMod_begin_169 : decode cMod_begin 169 = .ok (.iload_n 2, 1) := by decide +kernel
theorem dMod_begin_170 : decode cMod_begin 170 = .ok (.aload_n 0, 1) := by decide +kernel
theorem dMod_begin_171 : decode cMod_begin 171 = .ok (.getfield 7, 3) := by decide +kernel
theorem dMod_begin_174 : decode cMod_begin 174 = .ok (.iload_n 2, 1) := by decide +kernel
theorem dMod_begin_175 : decode cMod_begin 175 = .ok (.iaload, 1) := by decide +kernel
theorem dMod_begin_176 : decode cMod_begin 176 = .ok (.iload_n 3, 1) := by decide +kernel
theorem dMod_begin_177 : decode cMod_begin 177 = .ok (.iadd, 1) := by decide +kernel
theorem dMod_begin_178 : decode cMod_begin 178 = .ok (.iastore, 1) := by decide +kernel
theorem dMod_begin_179 : decode cMod_begin 179 = .ok (.aload_n 0, 1) := by decide +kernel
theorem dMod_begin_180 : decode cMod_begin 180 = .ok (.getfield 56, 3) := by decide +kernel
theorem dMod_begin_183 : decode cMod_begin 183 = .ok (.aload_n 0, 1) := by decide +kernel
theorem dMod_begin_184 : decode cMod_begin 184 = .ok (.getfield 126, 3) := by decide +kernel
theorem dMod_begin_187 : decode cMod_begin 187 = .ok (.iconst 0, 1) := by decide +kernel
theorem dMod_begin_188 : decode cMod_begin 188 = .ok (.iastore, 1) := by decide +kernel
theorem dMod_begin_189 : decode cMod_begin 189 = .ok (.aload_n 0, 1) := by decide +kernel
theorem dMod_begin_190 : decode cMod_begin 190 = .ok (.getfield 59, 3) := by decide +kernel
theorem dMod_begin_193 : decode cMod_begin 193 = .ok (.aload_n 0, 1) := by decide +kernel
theorem dMod_begin_194 : decode cMod_begin 194 = .ok (.getfield 126, 3) := by decide +kernel
theorem dMod_begin_197 : decode cMod_begin 197 = .ok (.iconst 0, 1) := by decide +kernel
theorem dMod_begin_198 : decode cMod_begin 198 = .ok (.iastore, 1) := by decide +kernel
theorem dMod_begin_199 : decode cMod_begin 199 = .ok (.aload_n 0, 1) := by decide +kernel
theorem dMod_begin_200 : decode cMod_begin 200 = .ok (.getfield 68, 3) := by decide +kernel
theorem dMod_begin_203 : decode cMod_begin 203 = .ok (.aload_n 0, 1) := by decide +kernel
theorem dMod_begin_204 : decode cMod_begin 204 = .ok (.getfield 126, 3) := by decide +kernel
theorem dMod_begin_207 : decode cMod_begin 207 = .ok (.iload_n 1, 1) := by decide +kernel
theorem dMod_begin_208 : decode cMod_begin 208 = .ok (.iastore, 1) := by decide +kernel
theorem dMod_begin_209 : decode cMod_begin 209 = .ok (.aload_n 0, 1) := by decide +kernel
theorem dMod_begin_210 : decode cMod_begin 210 = .ok (.getfield 71, 3) := by decide +kernel
theorem dMod_begin_213 : decode cMod_begin 213 = .ok (.aload_n 0, 1) := by decide +kernel
theorem dMod_begin_214 : decode cMod_begin 214 = .ok (.getfield 126, 3) := by decide +kernel
theorem dMod_begin_217 : decode cMod_begin 217 = .ok (.iload_n 3, 1) := by decide +kernel
theorem dMod_begin_218 : decode cMod_begin 218 = .ok (.iastore, 1) := by decide +kernel
theorem dMod_begin_219 : decode cMod_begin 219 = .ok (.aload_n 0, 1) := by decide +kernel
theorem dMod_begin_220 : decode cMod_begin 220 = .ok (.getfield 74, 3) := by decide +kernel
theorem dMod_begin_223 : decode cMod_begin 223 = .ok (.aload_n 0, 1) := by decide +kernel
theorem dMod_begin_224 : decode cMod_begin 224 = .ok (.getfield 126, 3) := by decide +kernel
theorem dMod_begin_227 : decode cMod_begin 227 = .ok (.iload 4, 2) := by decide +kernel
theorem dMod_begin_229 : decode cMod_begin 229 = .ok (.iastore, 1) := by decide +kernel
theorem dMod_begin_230 : decode cMod_begin 230 = .ok (.aload_n 0, 1) := by decide +kernel
theorem dMod_begin_231 : decode cMod_begin 231 = .ok (.getfield 77, 3) := by decide +kernel
theorem dMod_begin_234 : decode cMod_begin 234 = .ok (.aload_n 0, 1) := by decide +kernel
theorem dMod_begin_235 : decode cMod_begin 235 = .ok (.getfield 126, 3) := by decide +kernel
theorem dMod_begin_238 : decode cMod_begin 238 = .ok (.iload_n 2, 1) := by decide +kernel
theorem dMod_begin_239 : decode cMod_begin 239 = .ok (.iastore, 1) := by decide +kernel
theorem dMod_begin_240 : decode cMod_begin 240 = .ok (.return_, 1) := by decide +kernel
theorem gw20 : .selects RMod yMod_stored yMod_stored ∈ xG := List.mem_filter.mpr ⟨List.mem_of_getElem? (i := 20) (by decide +kernel), by decide +kernel⟩
theorem gw21 : .selects RMod yMod_keyOf yMod_keyOf ∈ xG := List.mem_filter.mpr ⟨List.mem_of_getElem? (i := 21) (by decide +kernel), by decide +kernel⟩
theorem gw652 : .fieldLink RMod 29 "CallLedgerModel" "keyValues" "[I" ∈ xG := List.mem_filter.mpr ⟨List.mem_of_getElem? (i := 652) (by decide +kernel), by decide +kernel⟩
theorem gw654 : .fieldLink RMod 32 "CallLedgerModel" "log" "[I" ∈ xG := List.mem_filter.mpr ⟨List.mem_of_getElem? (i := 654) (by decide +kernel), by decide +kernel⟩
theorem gw656 : .fieldLink RMod 35 "CallLedgerModel" "oldBalances" "[I" ∈ xG := List.mem_filter.mpr ⟨List.mem_of_getElem? (i := 656) (by decide +kernel), by decide +kernel⟩
theorem gw657 : .fieldLink RMod 38 "CallLedgerModel" "oldAccounts" "[I" ∈ xG := List.mem_filter.mpr ⟨List.mem_of_getElem? (i := 657) (by decide +kernel), by decide +kernel⟩
theorem gw658 : .fieldLink RMod 41 "CallLedgerModel" "oldNames" "[I" ∈ xG := List.mem_filter.mpr ⟨List.mem_of_getElem? (i := 658) (by decide +kernel), by decide +kernel⟩
theorem gw659 : .fieldLink RMod 44 "CallLedgerModel" "oldValues" "[I" ∈ xG := List.mem_filter.mpr ⟨List.mem_of_getElem? (i := 659) (by decide +kernel), by decide +kernel⟩
theorem gw660 : .fieldLink RMod 47 "CallLedgerModel" "oldKeys" "[I" ∈ xG := List.mem_filter.mpr ⟨List.mem_of_getElem? (i := 660) (by decide +kernel), by decide +kernel⟩
theorem gw661 : .fieldLink RMod 50 "CallLedgerModel" "oldLogged" "[I" ∈ xG := List.mem_filter.mpr ⟨List.mem_of_getElem? (i := 661) (by decide +kernel), by decide +kernel⟩
theorem gw662 : .fieldLink RMod 126 "CallLedgerModel" "depth" "I" ∈ xG := List.mem_filter.mpr ⟨List.mem_of_getElem? (i := 662) (by decide +kernel), by decide +kernel⟩
theorem gw664 : .fieldLink RMod 56 "CallLedgerModel" "heights" "[I" ∈ xG := List.mem_filter.mpr ⟨List.mem_of_getElem? (i := 664) (by decide +kernel), by decide +kernel⟩
theorem gw665 : .fieldLink RMod 59 "CallLedgerModel" "places" "[I" ∈ xG := List.mem_filter.mpr ⟨List.mem_of_getElem? (i := 665) (by decide +kernel), by decide +kernel⟩
theorem gw668 : .fieldLink RMod 68 "CallLedgerModel" "callers" "[I" ∈ xG := List.mem_filter.mpr ⟨List.mem_of_getElem? (i := 668) (by decide +kernel), by decide +kernel⟩
theorem gw669 : .fieldLink RMod 71 "CallLedgerModel" "values" "[I" ∈ xG := List.mem_filter.mpr ⟨List.mem_of_getElem? (i := 669) (by decide +kernel), by decide +kernel⟩
theorem gw670 : .fieldLink RMod 74 "CallLedgerModel" "gases" "[I" ∈ xG := List.mem_filter.mpr ⟨List.mem_of_getElem? (i := 670) (by decide +kernel), by decide +kernel⟩
theorem gw671 : .fieldLink RMod 77 "CallLedgerModel" "runAccounts" "[I" ∈ xG := List.mem_filter.mpr ⟨List.mem_of_getElem? (i := 671) (by decide +kernel), by decide +kernel⟩
theorem gw788 : .methodLink RMod 114 yMod_stored ∈ xG := List.mem_filter.mpr ⟨List.mem_of_getElem? (i := 788) (by decide +kernel), by decide +kernel⟩
theorem gw790 : .instanceMethod yMod_stored ∈ xG := List.mem_filter.mpr ⟨List.mem_of_getElem? (i := 790) (by decide +kernel), by decide +kernel⟩
theorem gw791 : .code yMod_stored cMod_stored 4 (some .int) ∈ xG := List.mem_filter.mpr ⟨List.mem_of_getElem? (i := 791) (by decide +kernel), by decide +kernel⟩
theorem gw792 : .methodLink RMod 110 yMod_keyOf ∈ xG := List.mem_filter.mpr ⟨List.mem_of_getElem? (i := 792) (by decide +kernel), by decide +kernel⟩
theorem gw794 : .instanceMethod yMod_keyOf ∈ xG := List.mem_filter.mpr ⟨List.mem_of_getElem? (i := 794) (by decide +kernel), by decide +kernel⟩
theorem gw795 : .code yMod_keyOf cMod_keyOf 4 (some .int) ∈ xG := List.mem_filter.mpr ⟨List.mem_of_getElem? (i := 795) (by decide +kernel), by decide +kernel⟩
theorem mN_add {n : Nat} {a x : Int32} (ha : a = 0) (hx : ¬ x = 0) : n + 1 = mN n a x := by unfold mN; rw [if_pos ha, if_neg hx]
theorem mN_nil {n : Nat} {a x : Int32} (ha : a = 0) (hx : x = 0) : n = mN n a x := by unfold mN; rw [if_pos ha, if_pos hx]
theorem mN_del {n : Nat} {a x : Int32} (ha : a ≠ 0) (hx : x = 0) : n - 1 = mN n a x := by unfold mN; rw [if_neg ha, if_pos hx]
theorem mN_set {n : Nat} {a x : Int32} (ha : a ≠ 0) (hx : ¬ x = 0) : n = mN n a x := by unfold mN; rw [if_neg ha, if_neg hx]
theorem m_ix1 {a h : Nat} (g : 1 ≤ h) : nI (a + h) - 1 = nI (a + (h - 1)) := by rw [x_pred (by omega), show a + h - 1 = a + (h - 1) from by omega]
theorem m_ix2 {a h n : Nat} (g : n ≤ h) : nI (a + h) - nI n = nI (a + (h - n)) := by rw [pk_sub (by omega), show a + h - n = a + (h - n) from by omega]
/-- how many numbers an instruction leaves -/
def mLv (op : Nat) (x : Int32) : Nat := ([0, 1, 0, x.toNatClampNeg + 2, x.toNatClampNeg + 1, 1, 1, 1, 1, 1, 1, 1, 1, 1, 1, 1, 0, 0, 1, 0, 1, 1, 1, 1, 1, 0, 0, 2, 1, 0] : List Nat).getD op 1
theorem m_p1 {x : Int32} (h : x = nI x.toNatClampNeg) : x + 1 = nI (1 + x.toNatClampNeg) := by
  rw [Nat.add_comm]
  calc x + 1 = nI x.toNatClampNeg + 1 := by rw [← h]
    _ = _ := nI_1 _
theorem m_pk {x : Int32} (k : Nat) (h : x = nI x.toNatClampNeg) : x + nI k = nI (x.toNatClampNeg + k) := by
  calc x + nI k = nI x.toNatClampNeg + nI k := by rw [← h]
    _ = _ := nI_add _ _
theorem m_p3 {x : Int32} (h : x = nI x.toNatClampNeg) : x + 3 = nI (3 + x.toNatClampNeg) := by rw [Nat.add_comm]; exact m_pk 3 h
section MPrice
variable {op : Nat} {sf : Nat → Int32} {sn : Nat} {σ : Int64 → Int32} {ac : Nat}
theorem mP1 (h : op = 19) (h2 : sn < 2) : (5 : Int32) = nI (xPrice op sf sn σ ac) := by unfold xPrice; rw [if_pos h, if_pos h2]; rfl
theorem mP2 (h : op = 19) (h2 : ¬ sn < 2) (h3 : σ (xSlot (nI ac) (sf (sn - 1 - 1))) = sf (sn - 1)) : (5 : Int32) = nI (xPrice op sf sn σ ac) := by unfold xPrice; rw [if_pos h, if_neg h2, if_pos h3]; rfl
theorem mP3 (h : op = 19) (h2 : ¬ sn < 2) (h3 : ¬ σ (xSlot (nI ac) (sf (sn - 1 - 1))) = sf (sn - 1)) (h4 : σ (xSlot (nI ac) (sf (sn - 1 - 1))) = 0) : (40 : Int32) = nI (xPrice op sf sn σ ac) := by unfold xPrice; rw [if_pos h, if_neg h2, if_neg h3, if_pos h4]; rfl
theorem mP4 (h : op = 19) (h2 : ¬ sn < 2) (h3 : ¬ σ (xSlot (nI ac) (sf (sn - 1 - 1))) = sf (sn - 1)) (h4 : ¬ σ (xSlot (nI ac) (sf (sn - 1 - 1))) = 0) : (20 : Int32) = nI (xPrice op sf sn σ ac) := by unfold xPrice; rw [if_pos h, if_neg h2, if_neg h3, if_neg h4]; rfl
theorem mP5 (h9 : ¬ op = 19) (h : op = 27) (h2 : sn < 2) : (25 : Int32) = nI (xPrice op sf sn σ ac) := by unfold xPrice; rw [if_neg h9, if_pos h, if_pos (Or.inl h2)]; rfl
theorem mP6 (h9 : ¬ op = 19) (h : op = 27) (h3 : sf (sn - 1 - 1) = 0) : (25 : Int32) = nI (xPrice op sf sn σ ac) := by unfold xPrice; rw [if_neg h9, if_pos h, if_pos (Or.inr h3)]; rfl
theorem mP7 (h9 : ¬ op = 19) (h : op = 27) (h2 : ¬ sn < 2) (h3 : ¬ sf (sn - 1 - 1) = 0) : (40 : Int32) = nI (xPrice op sf sn σ ac) := by unfold xPrice; rw [if_neg h9, if_pos h, if_neg (fun z => z.elim h2 h3)]; rfl
theorem mP8 (h9 : ¬ op = 19) (h : ¬ op = 27) : nI (xPr op) = nI (xPrice op sf sn σ ac) := by unfold xPrice; rw [if_neg h9, if_neg h]
end MPrice
theorem m_le1 {h : Nat} (c : h ≤ 1) : h < 2 := Nat.lt_succ_of_le c
theorem m_nle1 {h : Nat} (c : ¬ h ≤ 1) : ¬ h < 2 := fun z => c (Nat.le_of_lt_succ z)
set_option maxHeartbeats 4000000 in
set_option maxRecDepth 100000 in
theorem kM_stored (l : Launch) (dC : Nat → ClassId) (dI : Nat → Nat → Nat) (kI kJ kZ : ClassId) (m0 : Nat) (b1 : Nat) (b2 : Nat) (b3 : Nat) (b4 : Nat) (b5 : Nat) (b6 : Nat) (b7 : Nat) (b8 : Nat) (b9 : Nat) (b10 : Nat) (b11 : Nat) (b12 : Nat) (b13 : Nat) (b14 : Nat) (b15 : Nat) (b16 : Nat) (b17 : Nat) (b18 : Nat) (b19 : Nat) (b20 : Nat) (b21 : Nat) (b22 : Nat) (b23 : Nat) (b24 : Nat) (nA : Nat) (kn : Nat) (ln : Nat) (an : Nat) (f0 : Int32) (f2 : Int32) (f3 : Int32) (f4 : Int32) (f5 : Int32) (f1 : Int32) (ka : Nat → Int32) (kN : Nat → Int32) (kv : Nat → Int32) (σ : Int64 → Int32) (x : Int32) (k : Int32) (hms : MST ka kN kv kn σ) :
    XM stX l yMod_stored wMod_stored { frames := 1, cells := 0, slots := 0, locals := 23 } (dC, dI) xCl (x_T kI kJ kZ) [(m0, .inr (6, [.int f0, .int (nI nA), .ref b1, .ref b2, .ref b3, .ref b4, .ref b5, .ref b6, .ref b7, .int (nI kn), .ref b8, .int (nI ln), .ref b9, .ref b10, .ref b11, .ref b12, .ref b13, .ref b14, .int f1, .ref b15, .ref b16, .ref b17, .ref b18, .ref b19, .ref b20, .ref b21, .ref b22, .ref b23, .ref b24, .int (nI an), .int f2, .int f3, .int f4, .int f5])), (b5, .inl (kI, 500, .inl ka)), (b6, .inl (kI, 500, .inl kN)), (b7, .inl (kI, 500, .inl kv))] [.ref m0, .int x, .int k] 0 0 x_eI (fun (r : Int32) (u : Unit) => r = σ (xSlot x k)) (fun (u : Unit) => [(m0, .inr (6, [.int f0, .int (nI nA), .ref b1, .ref b2, .ref b3, .ref b4, .ref b5, .ref b6, .ref b7, .int (nI kn), .ref b8, .int (nI ln), .ref b9, .ref b10, .ref b11, .ref b12, .ref b13, .ref b14, .int f1, .ref b15, .ref b16, .ref b17, .ref b18, .ref b19, .ref b20, .ref b21, .ref b22, .ref b23, .ref b24, .int (nI an), .int f2, .int f3, .int f4, .int f5])), (b5, .inl (kI, 500, .inl ka)), (b6, .inl (kI, 500, .inl kN)), (b7, .inl (kI, 500, .inl kv))]) := by
  refine XM.ofI (cc := cMod_stored) (maxL := 4) (by decide) rfl (Nat.le_of_ble_eq_true rfl) ?_
  intro p e s m below meth c A Q hx hb hr hml hown hts hlocks hin hA hK hP hD hX hS ls hl hret
  have hl : lv_has ls 4 [(0, .ref m0), (1, .int x), (2, .int k)] := hl
  have hk5 := hms.1
  refine lv_aload_n hx hb dMod_stored_0 rfl (lv_at hl 0 rfl) ?_
  refine lv_iload_n hx hb dMod_stored_1 rfl (lv_at hl 1 rfl) ?_
  refine lv_iload_n hx hb dMod_stored_2 rfl (lv_at hl 2 rfl) ?_
  rcases mst_find ka kN x k kn with hno | ⟨q, hq, hqa, hql⟩
  · refine XM.callVi (As := [.int x, .int k]) (rest := []) (wr := [(b7, .inl (kI, 500, .inl kv))]) stX_ok ⟨hx, hb, hml, hown, hts⟩ (kM_keyN l dC dI kI kJ kZ m0 b1 b2 b3 b4 b5 b6 b7 b8 b9 b10 b11 b12 b13 b14 b15 b16 b17 b18 b19 b20 b21 b22 b23 b24 nA kn ln an f0 f2 f3 f4 f5 f1 ka kN x k (by first | assumption | omega) (by first | assumption | omega)) (cwV 2 hts (x_gV gw792 gw794 gw21 gw43 gw795) rfl rfl rfl (by decide +kernel) ⟨Nat.le_of_ble_eq_true rfl, Nat.le_of_ble_eq_true rfl⟩) hK hP hD hS hA hX [0, 1, 2] [3] rfl rfl (by decide) (by decide) (by decide) rfl rfl rfl rfl hl.1 (Nat.le_of_ble_eq_true rfl) dMod_stored_3 ⟨Nat.le_of_ble_eq_true rfl, Nat.le_of_ble_eq_true rfl⟩ (fun r_2 u_1 H locs hw hP hD hS => ?_)
    obtain rfl := hw
    have hP : va_P (dC, dI) xCl [(b7, .inl (kI, 500, .inl kv)), (m0, .inr (6, [.int f0, .int (nI nA), .ref b1, .ref b2, .ref b3, .ref b4, .ref b5, .ref b6, .ref b7, .int (nI kn), .ref b8, .int (nI ln), .ref b9, .ref b10, .ref b11, .ref b12, .ref b13, .ref b14, .int f1, .ref b15, .ref b16, .ref b17, .ref b18, .ref b19, .ref b20, .ref b21, .ref b22, .ref b23, .ref b24, .int (nI an), .int f2, .int f3, .int f4, .int f5])), (b5, .inl (kI, 500, .inl ka)), (b6, .inl (kI, 500, .inl kN))] H := hP
    have hD : va_D A [(b7, .inl (kI, 500, .inl kv)), (m0, .inr (6, [.int f0, .int (nI nA), .ref b1, .ref b2, .ref b3, .ref b4, .ref b5, .ref b6, .ref b7, .int (nI kn), .ref b8, .int (nI ln), .ref b9, .ref b10, .ref b11, .ref b12, .ref b13, .ref b14, .int f1, .ref b15, .ref b16, .ref b17, .ref b18, .ref b19, .ref b20, .ref b21, .ref b22, .ref b23, .ref b24, .int (nI an), .int f2, .int f3, .int f4, .int f5])), (b5, .inl (kI, 500, .inl ka)), (b6, .inl (kI, 500, .inl kN))] := hD
    refine lv_istore_n (lv' := [(3, .int (-1)), (0, .ref m0), (1, .int x), (2, .int k)]) hx hb dMod_stored_6 rfl hl (by decide) rfl (fun ls hl => ?_)
    refine lv_iload_n hx hb dMod_stored_7 rfl (lv_at hl 0 rfl) ?_
    refine lv_if_ge (tgt := 15) hx hb dMod_stored_8 (by decide) (fun c8 => ?_) (fun c8 => ?_)
    · exact absurd c8 (by decide)
    · refine lv_iconst (v := 0) hx hb dMod_stored_11 (by decide) ?_
      refine lv_goto (tgt := 21) hx hb dMod_stored_12 (by decide) ?_
      exact hret 0 (()) _ _ _ (by first | exact (mst_none hms hno).symm | exact (mst_some hms hq hqa).1.symm) (hP.sub [1, 2, 3, 0] rfl) (hD.sub [1, 2, 3, 0] (by decide) rfl) hS dMod_stored_21
  · have hs1 : σ (xSlot x k) ≠ 0 := by rw [(mst_some hms hq hqa).1]; exact (mst_some hms hq hqa).2
    refine XM.callVi (As := [.int x, .int k]) (rest := []) (wr := [(b7, .inl (kI, 500, .inl kv))]) stX_ok ⟨hx, hb, hml, hown, hts⟩ (kM_keyS l dC dI kI kJ kZ m0 b1 b2 b3 b4 b5 b6 b7 b8 b9 b10 b11 b12 b13 b14 b15 b16 b17 b18 b19 b20 b21 b22 b23 b24 nA kn ln an f0 f2 f3 f4 f5 f1 ka kN x k q (by first | assumption | omega) (by first | assumption | omega) (by first | assumption | omega) (by first | assumption | omega)) (cwV 2 hts (x_gV gw792 gw794 gw21 gw43 gw795) rfl rfl rfl (by decide +kernel) ⟨Nat.le_of_ble_eq_true rfl, Nat.le_of_ble_eq_true rfl⟩) hK hP hD hS hA hX [0, 1, 2] [3] rfl rfl (by decide) (by decide) (by decide) rfl rfl rfl rfl hl.1 (Nat.le_of_ble_eq_true rfl) dMod_stored_3 ⟨Nat.le_of_ble_eq_true rfl, Nat.le_of_ble_eq_true rfl⟩ (fun r_4 u_3 H locs hw hP hD hS => ?_)
    obtain rfl := hw
    have hP : va_P (dC, dI) xCl [(b7, .inl (kI, 500, .inl kv)), (m0, .inr (6, [.int f0, .int (nI nA), .ref b1, .ref b2, .ref b3, .ref b4, .ref b5, .ref b6, .ref b7, .int (nI kn), .ref b8, .int (nI ln), .ref b9, .ref b10, .ref b11, .ref b12, .ref b13, .ref b14, .int f1, .ref b15, .ref b16, .ref b17, .ref b18, .ref b19, .ref b20, .ref b21, .ref b22, .ref b23, .ref b24, .int (nI an), .int f2, .int f3, .int f4, .int f5])), (b5, .inl (kI, 500, .inl ka)), (b6, .inl (kI, 500, .inl kN))] H := hP
    have hD : va_D A [(b7, .inl (kI, 500, .inl kv)), (m0, .inr (6, [.int f0, .int (nI nA), .ref b1, .ref b2, .ref b3, .ref b4, .ref b5, .ref b6, .ref b7, .int (nI kn), .ref b8, .int (nI ln), .ref b9, .ref b10, .ref b11, .ref b12, .ref b13, .ref b14, .int f1, .ref b15, .ref b16, .ref b17, .ref b18, .ref b19, .ref b20, .ref b21, .ref b22, .ref b23, .ref b24, .int (nI an), .int f2, .int f3, .int f4, .int f5])), (b5, .inl (kI, 500, .inl ka)), (b6, .inl (kI, 500, .inl kN))] := hD
    refine lv_istore_n (lv' := [(3, .int (nI q)), (0, .ref m0), (1, .int x), (2, .int k)]) hx hb dMod_stored_6 rfl hl (by decide) rfl (fun ls hl => ?_)
    refine lv_iload_n hx hb dMod_stored_7 rfl (lv_at hl 0 rfl) ?_
    refine lv_if_ge (tgt := 15) hx hb dMod_stored_8 (by decide) (fun c8 => ?_) (fun c8 => ?_)
    · have c8 : 0 ≤ q := (nI_leI (a := 0) (b := q) (by omega) (by omega)).mp c8
      refine lv_aload_n hx hb dMod_stored_15 rfl (lv_at hl 1 rfl) ?_
      refine va_get (D := (dC, dI)) (ci := 6) (v := .ref b7) (C := RMod) (T := TMod) (N := 34) hx hb hts (fun w h => List.mem_cons_of_mem _ (layMod w h)) hown hK hP 1 rfl rfl 8 (by decide) (hts (.fieldLink RMod 29 "CallLedgerModel" "keyValues" "[I") (List.mem_cons_of_mem _ gw652)) (fun _ h9 => h9) rfl dMod_stored_16 ?_
      refine lv_iload_n hx hb dMod_stored_19 rfl (lv_at hl 0 rfl) ?_
      refine x_iald (j := q) hx hb hK hP 0 0 rfl rfl rfl (by omega) (by omega) dMod_stored_20 ?_
      exact hret (kv q) (()) _ _ _ (by first | exact (mst_none hms hno).symm | exact (mst_some hms hq hqa).1.symm) (hP.sub [1, 2, 3, 0] rfl) (hD.sub [1, 2, 3, 0] (by decide) rfl) hS dMod_stored_21
    · have c8 : ¬ (0 ≤ q) := fun z9 => c8 ((nI_leI (a := 0) (b := q) (by omega) (by omega)).mpr z9)
      exfalso; omega

set_option maxHeartbeats 4000000 in
set_option maxRecDepth 100000 in
theorem kM_store (l : Launch) (dC : Nat → ClassId) (dI : Nat → Nat → Nat) (kI kJ kZ : ClassId) (m0 : Nat) (b1 : Nat) (b2 : Nat) (b3 : Nat) (b4 : Nat) (b5 : Nat) (b6 : Nat) (b7 : Nat) (b8 : Nat) (b9 : Nat) (b10 : Nat) (b11 : Nat) (b12 : Nat) (b13 : Nat) (b14 : Nat) (b15 : Nat) (b16 : Nat) (b17 : Nat) (b18 : Nat) (b19 : Nat) (b20 : Nat) (b21 : Nat) (b22 : Nat) (b23 : Nat) (b24 : Nat) (nA : Nat) (kn : Nat) (ln : Nat) (an : Nat) (f0 : Int32) (f2 : Int32) (f3 : Int32) (f4 : Int32) (f5 : Int32) (f1 : Int32) (ka : Nat → Int32) (kN : Nat → Int32) (kv : Nat → Int32) (σ : Int64 → Int32) (x : Int32) (k : Int32) (v : Int32) (hms : MST ka kN kv kn σ) (hroom : v ≠ 0 → σ (xSlot x k) = 0 → kn < 500) :
    XM stX l yMod_store wMod_store { frames := 1, cells := 0, slots := 0, locals := 23 } (dC, dI) xCl (x_T kI kJ kZ) [(m0, .inr (6, [.int f0, .int (nI nA), .ref b1, .ref b2, .ref b3, .ref b4, .ref b5, .ref b6, .ref b7, .int (nI kn), .ref b8, .int (nI ln), .ref b9, .ref b10, .ref b11, .ref b12, .ref b13, .ref b14, .int f1, .ref b15, .ref b16, .ref b17, .ref b18, .ref b19, .ref b20, .ref b21, .ref b22, .ref b23, .ref b24, .int (nI an), .int f2, .int f3, .int f4, .int f5])), (b5, .inl (kI, 500, .inl ka)), (b6, .inl (kI, 500, .inl kN)), (b7, .inl (kI, 500, .inl kv))] [.ref m0, .int x, .int k, .int v] 0 0 x_eV (fun (r : Unit) (u : (Nat → Int32) × (Nat → Int32) × (Nat → Int32) × Nat) => (u.2.2.2 = mN kn (σ (xSlot x k)) v) ∧ (MST u.1 u.2.1 u.2.2.1 u.2.2.2 (mU σ (xSlot x k) v))) (fun (u : (Nat → Int32) × (Nat → Int32) × (Nat → Int32) × Nat) => [(m0, .inr (6, [.int f0, .int (nI nA), .ref b1, .ref b2, .ref b3, .ref b4, .ref b5, .ref b6, .ref b7, .int (nI u.2.2.2), .ref b8, .int (nI ln), .ref b9, .ref b10, .ref b11, .ref b12, .ref b13, .ref b14, .int f1, .ref b15, .ref b16, .ref b17, .ref b18, .ref b19, .ref b20, .ref b21, .ref b22, .ref b23, .ref b24, .int (nI an), .int f2, .int f3, .int f4, .int f5])), (b5, .inl (kI, 500, .inl u.1)), (b6, .inl (kI, 500, .inl u.2.1)), (b7, .inl (kI, 500, .inl u.2.2.1))]) := by
  refine XM.ofV (cc := cMod_store) (maxL := 5) (by decide) rfl (Nat.le_of_ble_eq_true rfl) ?_
  intro p e s m below meth c A Q hx hb hr hml hown hts hlocks hin hA hK hP hD hX hS ls hl hret
  have hl : lv_has ls 5 [(0, .ref m0), (1, .int x), (2, .int k), (3, .int v)] := hl
  have hk5 := hms.1
  refine lv_aload_n hx hb dMod_store_0 rfl (lv_at hl 0 rfl) ?_
  refine lv_iload_n hx hb dMod_store_1 rfl (lv_at hl 1 rfl) ?_
  refine lv_iload_n hx hb dMod_store_2 rfl (lv_at hl 2 rfl) ?_
  rcases mst_find ka kN x k kn with hno | ⟨q, hq, hqa, hql⟩
  · refine XM.callVi (As := [.int x, .int k]) (rest := []) (wr := [(b7, .inl (kI, 500, .inl kv))]) stX_ok ⟨hx, hb, hml, hown, hts⟩ (kM_keyN l dC dI kI kJ kZ m0 b1 b2 b3 b4 b5 b6 b7 b8 b9 b10 b11 b12 b13 b14 b15 b16 b17 b18 b19 b20 b21 b22 b23 b24 nA kn ln an f0 f2 f3 f4 f5 f1 ka kN x k (by first | assumption | omega) (by first | assumption | omega)) (cwV 2 hts (x_gV gw792 gw794 gw21 gw43 gw795) rfl rfl rfl (by decide +kernel) ⟨Nat.le_of_ble_eq_true rfl, Nat.le_of_ble_eq_true rfl⟩) hK hP hD hS hA hX [0, 1, 2] [3] rfl rfl (by decide) (by decide) (by decide) rfl rfl rfl rfl hl.1 (Nat.le_of_ble_eq_true rfl) dMod_store_3 ⟨Nat.le_of_ble_eq_true rfl, Nat.le_of_ble_eq_true rfl⟩ (fun r_2 u_1 H locs hw hP hD hS => ?_)
    obtain rfl := hw
    have hP : va_P (dC, dI) xCl [(b7, .inl (kI, 500, .inl kv)), (m0, .inr (6, [.int f0, .int (nI nA), .ref b1, .ref b2, .ref b3, .ref b4, .ref b5, .ref b6, .ref b7, .int (nI kn), .ref b8, .int (nI ln), .ref b9, .ref b10, .ref b11, .ref b12, .ref b13, .ref b14, .int f1, .ref b15, .ref b16, .ref b17, .ref b18, .ref b19, .ref b20, .ref b21, .ref b22, .ref b23, .ref b24, .int (nI an), .int f2, .int f3, .int f4, .int f5])), (b5, .inl (kI, 500, .inl ka)), (b6, .inl (kI, 500, .inl kN))] H := hP
    have hD : va_D A [(b7, .inl (kI, 500, .inl kv)), (m0, .inr (6, [.int f0, .int (nI nA), .ref b1, .ref b2, .ref b3, .ref b4, .ref b5, .ref b6, .ref b7, .int (nI kn), .ref b8, .int (nI ln), .ref b9, .ref b10, .ref b11, .ref b12, .ref b13, .ref b14, .int f1, .ref b15, .ref b16, .ref b17, .ref b18, .ref b19, .ref b20, .ref b21, .ref b22, .ref b23, .ref b24, .int (nI an), .int f2, .int f3, .int f4, .int f5])), (b5, .inl (kI, 500, .inl ka)), (b6, .inl (kI, 500, .inl kN))] := hD
    refine lv_istore (lv' := [(4, .int (-1)), (0, .ref m0), (1, .int x), (2, .int k), (3, .int v)]) hx hb dMod_store_6 hl (by decide) rfl (fun ls hl => ?_)
    refine lv_iload hx hb dMod_store_8 (lv_at hl 0 rfl) ?_
    refine lv_if_ge (tgt := 60) hx hb dMod_store_10 (by decide) (fun c10 => ?_) (fun c10 => ?_)
    · exact absurd c10 (by decide)
    · refine lv_iload_n hx hb dMod_store_13 rfl (lv_at hl 4 rfl) ?_
      refine lv_if_eq (tgt := 60) hx hb dMod_store_14 (by decide) (fun c14 => ?_) (fun c14 => ?_)
      · refine lv_iload hx hb dMod_store_60 (lv_at hl 0 rfl) ?_
        refine lv_if_lt (tgt := 130) hx hb dMod_store_62 (by decide) (fun c62 => ?_) (fun c62 => ?_)
        · refine lv_iload hx hb dMod_store_130 (lv_at hl 0 rfl) ?_
          refine lv_if_lt (tgt := 143) hx hb dMod_store_132 (by decide) (fun c132 => ?_) (fun c132 => ?_)
          · exact hret  ((ka, kN, kv, kn)) _ _ _ (⟨by first | exact mN_add (mst_none hms hno) c14 | exact mN_nil (mst_none hms hno) c14 | exact mN_del hs1 c66 | exact mN_set hs1 c66, by first | exact mst_add hms hno c14 hr5 | (rw [c14, mU_self (mst_none hms hno)]; exact hms) | exact mst_set hms hq hqa c66 | (rw [c66]; exact mst_del hms hq hqa)⟩) (hP.sub [1, 2, 3, 0] rfl) (hD.sub [1, 2, 3, 0] (by decide) rfl) hS dMod_store_143
          · exact absurd c132 (by decide)
        · exact absurd c62 (by decide)
      · have hr5 : kn < 500 := hroom c14 (mst_none hms hno)
        refine lv_aload_n hx hb dMod_store_17 rfl (lv_at hl 1 rfl) ?_
        refine va_get (D := (dC, dI)) (ci := 6) (v := .ref b5) (C := RMod) (T := TMod) (N := 34) hx hb hts (fun w h => List.mem_cons_of_mem _ (layMod w h)) hown hK hP 1 rfl rfl 6 (by decide) (hts (.fieldLink RMod 23 "CallLedgerModel" "keyAccounts" "[I") (List.mem_cons_of_mem _ gw650)) (fun _ h9 => h9) rfl dMod_store_18 ?_
        refine lv_aload_n hx hb dMod_store_21 rfl (lv_at hl 1 rfl) ?_
        refine va_get (D := (dC, dI)) (ci := 6) (v := .int (nI kn)) (C := RMod) (T := TMod) (N := 34) hx hb hts (fun w h => List.mem_cons_of_mem _ (layMod w h)) hown hK hP 1 rfl rfl 9 (by decide) (hts (.fieldLink RMod 107 "CallLedgerModel" "keys" "I") (List.mem_cons_of_mem _ gw653)) (fun _ h9 => h9) rfl dMod_store_22 ?_
        refine lv_iload_n hx hb dMod_store_25 rfl (lv_at hl 2 rfl) ?_
        refine x_iast (j := kn) hx hb hK hP hD hS 2 0 rfl rfl rfl (by omega) (by omega) dMod_store_26 (fun H locs hP hD hS => ?_)
        have hP : va_P (dC, dI) xCl [(b7, .inl (kI, 500, .inl kv)), (m0, .inr (6, [.int f0, .int (nI nA), .ref b1, .ref b2, .ref b3, .ref b4, .ref b5, .ref b6, .ref b7, .int (nI kn), .ref b8, .int (nI ln), .ref b9, .ref b10, .ref b11, .ref b12, .ref b13, .ref b14, .int f1, .ref b15, .ref b16, .ref b17, .ref b18, .ref b19, .ref b20, .ref b21, .ref b22, .ref b23, .ref b24, .int (nI an), .int f2, .int f3, .int f4, .int f5])), (b5, .inl (kI, 500, .inl (upd ka kn x))), (b6, .inl (kI, 500, .inl kN))] H := hP
        have hD : va_D A [(b7, .inl (kI, 500, .inl kv)), (m0, .inr (6, [.int f0, .int (nI nA), .ref b1, .ref b2, .ref b3, .ref b4, .ref b5, .ref b6, .ref b7, .int (nI kn), .ref b8, .int (nI ln), .ref b9, .ref b10, .ref b11, .ref b12, .ref b13, .ref b14, .int f1, .ref b15, .ref b16, .ref b17, .ref b18, .ref b19, .ref b20, .ref b21, .ref b22, .ref b23, .ref b24, .int (nI an), .int f2, .int f3, .int f4, .int f5])), (b5, .inl (kI, 500, .inl (upd ka kn x))), (b6, .inl (kI, 500, .inl kN))] := hD
        refine lv_aload_n hx hb dMod_store_27 rfl (lv_at hl 1 rfl) ?_
        refine va_get (D := (dC, dI)) (ci := 6) (v := .ref b6) (C := RMod) (T := TMod) (N := 34) hx hb hts (fun w h => List.mem_cons_of_mem _ (layMod w h)) hown hK hP 1 rfl rfl 7 (by decide) (hts (.fieldLink RMod 26 "CallLedgerModel" "keyNames" "[I") (List.mem_cons_of_mem _ gw651)) (fun _ h9 => h9) rfl dMod_store_28 ?_
        refine lv_aload_n hx hb dMod_store_31 rfl (lv_at hl 1 rfl) ?_
        refine va_get (D := (dC, dI)) (ci := 6) (v := .int (nI kn)) (C := RMod) (T := TMod) (N := 34) hx hb hts (fun w h => List.mem_cons_of_mem _ (layMod w h)) hown hK hP 1 rfl rfl 9 (by decide) (hts (.fieldLink RMod 107 "CallLedgerModel" "keys" "I") (List.mem_cons_of_mem _ gw653)) (fun _ h9 => h9) rfl dMod_store_32 ?_
        refine lv_iload_n hx hb dMod_store_35 rfl (lv_at hl 3 rfl) ?_
        refine x_iast (j := kn) hx hb hK hP hD hS 3 0 rfl rfl rfl (by omega) (by omega) dMod_store_36 (fun H locs hP hD hS => ?_)
        have hP : va_P (dC, dI) xCl [(b7, .inl (kI, 500, .inl kv)), (m0, .inr (6, [.int f0, .int (nI nA), .ref b1, .ref b2, .ref b3, .ref b4, .ref b5, .ref b6, .ref b7, .int (nI kn), .ref b8, .int (nI ln), .ref b9, .ref b10, .ref b11, .ref b12, .ref b13, .ref b14, .int f1, .ref b15, .ref b16, .ref b17, .ref b18, .ref b19, .ref b20, .ref b21, .ref b22, .ref b23, .ref b24, .int (nI an), .int f2, .int f3, .int f4, .int f5])), (b5, .inl (kI, 500, .inl (upd ka kn x))), (b6, .inl (kI, 500, .inl (upd kN kn k)))] H := hP
        have hD : va_D A [(b7, .inl (kI, 500, .inl kv)), (m0, .inr (6, [.int f0, .int (nI nA), .ref b1, .ref b2, .ref b3, .ref b4, .ref b5, .ref b6, .ref b7, .int (nI kn), .ref b8, .int (nI ln), .ref b9, .ref b10, .ref b11, .ref b12, .ref b13, .ref b14, .int f1, .ref b15, .ref b16, .ref b17, .ref b18, .ref b19, .ref b20, .ref b21, .ref b22, .ref b23, .ref b24, .int (nI an), .int f2, .int f3, .int f4, .int f5])), (b5, .inl (kI, 500, .inl (upd ka kn x))), (b6, .inl (kI, 500, .inl (upd kN kn k)))] := hD
        refine lv_aload_n hx hb dMod_store_37 rfl (lv_at hl 1 rfl) ?_
        refine va_get (D := (dC, dI)) (ci := 6) (v := .ref b7) (C := RMod) (T := TMod) (N := 34) hx hb hts (fun w h => List.mem_cons_of_mem _ (layMod w h)) hown hK hP 1 rfl rfl 8 (by decide) (hts (.fieldLink RMod 29 "CallLedgerModel" "keyValues" "[I") (List.mem_cons_of_mem _ gw652)) (fun _ h9 => h9) rfl dMod_store_38 ?_
        refine lv_aload_n hx hb dMod_store_41 rfl (lv_at hl 1 rfl) ?_
        refine va_get (D := (dC, dI)) (ci := 6) (v := .int (nI kn)) (C := RMod) (T := TMod) (N := 34) hx hb hts (fun w h => List.mem_cons_of_mem _ (layMod w h)) hown hK hP 1 rfl rfl 9 (by decide) (hts (.fieldLink RMod 107 "CallLedgerModel" "keys" "I") (List.mem_cons_of_mem _ gw653)) (fun _ h9 => h9) rfl dMod_store_42 ?_
        refine lv_iload_n hx hb dMod_store_45 rfl (lv_at hl 4 rfl) ?_
        refine x_iast (j := kn) hx hb hK hP hD hS 0 0 rfl rfl rfl (by omega) (by omega) dMod_store_46 (fun H locs hP hD hS => ?_)
        have hP : va_P (dC, dI) xCl [(b7, .inl (kI, 500, .inl (upd kv kn v))), (m0, .inr (6, [.int f0, .int (nI nA), .ref b1, .ref b2, .ref b3, .ref b4, .ref b5, .ref b6, .ref b7, .int (nI kn), .ref b8, .int (nI ln), .ref b9, .ref b10, .ref b11, .ref b12, .ref b13, .ref b14, .int f1, .ref b15, .ref b16, .ref b17, .ref b18, .ref b19, .ref b20, .ref b21, .ref b22, .ref b23, .ref b24, .int (nI an), .int f2, .int f3, .int f4, .int f5])), (b5, .inl (kI, 500, .inl (upd ka kn x))), (b6, .inl (kI, 500, .inl (upd kN kn k)))] H := hP
        have hD : va_D A [(b7, .inl (kI, 500, .inl (upd kv kn v))), (m0, .inr (6, [.int f0, .int (nI nA), .ref b1, .ref b2, .ref b3, .ref b4, .ref b5, .ref b6, .ref b7, .int (nI kn), .ref b8, .int (nI ln), .ref b9, .ref b10, .ref b11, .ref b12, .ref b13, .ref b14, .int f1, .ref b15, .ref b16, .ref b17, .ref b18, .ref b19, .ref b20, .ref b21, .ref b22, .ref b23, .ref b24, .int (nI an), .int f2, .int f3, .int f4, .int f5])), (b5, .inl (kI, 500, .inl (upd ka kn x))), (b6, .inl (kI, 500, .inl (upd kN kn k)))] := hD
        refine lv_aload_n hx hb dMod_store_47 rfl (lv_at hl 1 rfl) ?_
        refine lv_dup hx hb dMod_store_48 rfl ?_
        refine va_get (D := (dC, dI)) (ci := 6) (v := .int (nI kn)) (C := RMod) (T := TMod) (N := 34) hx hb hts (fun w h => List.mem_cons_of_mem _ (layMod w h)) hown hK hP 1 rfl rfl 9 (by decide) (hts (.fieldLink RMod 107 "CallLedgerModel" "keys" "I") (List.mem_cons_of_mem _ gw653)) (fun _ h9 => h9) rfl dMod_store_49 ?_
        refine lv_iconst (v := 1) hx hb dMod_store_52 (by decide) ?_
        refine lv_iadd hx hb dMod_store_53 ?_
        refine x_topi (y := nI (kn + 1)) (nI_1 _) ?_
        refine va_put (D := (dC, dI)) (ci := 6) (v := .int (nI (kn + 1))) (ty := .int) (C := RMod) (T := TMod) (N := 34) hx hb hts (fun w h => List.mem_cons_of_mem _ (layMod w h)) tyMod tykMod nmMod hown hK hP hD hS 1 rfl rfl 9 (by decide) (hts (.fieldLink RMod 107 "CallLedgerModel" "keys" "I") (List.mem_cons_of_mem _ gw653)) (fun _ h9 => h9) rfl (by decide +kernel) rfl rfl (Nat.le_of_ble_eq_true rfl) dMod_store_54 (fun H locs hP hD hS => ?_)
        have hP : va_P (dC, dI) xCl [(b7, .inl (kI, 500, .inl (upd kv kn v))), (m0, .inr (6, [.int f0, .int (nI nA), .ref b1, .ref b2, .ref b3, .ref b4, .ref b5, .ref b6, .ref b7, .int (nI (kn + 1)), .ref b8, .int (nI ln), .ref b9, .ref b10, .ref b11, .ref b12, .ref b13, .ref b14, .int f1, .ref b15, .ref b16, .ref b17, .ref b18, .ref b19, .ref b20, .ref b21, .ref b22, .ref b23, .ref b24, .int (nI an), .int f2, .int f3, .int f4, .int f5])), (b5, .inl (kI, 500, .inl (upd ka kn x))), (b6, .inl (kI, 500, .inl (upd kN kn k)))] H := hP
        have hD : va_D A [(b7, .inl (kI, 500, .inl (upd kv kn v))), (m0, .inr (6, [.int f0, .int (nI nA), .ref b1, .ref b2, .ref b3, .ref b4, .ref b5, .ref b6, .ref b7, .int (nI (kn + 1)), .ref b8, .int (nI ln), .ref b9, .ref b10, .ref b11, .ref b12, .ref b13, .ref b14, .int f1, .ref b15, .ref b16, .ref b17, .ref b18, .ref b19, .ref b20, .ref b21, .ref b22, .ref b23, .ref b24, .int (nI an), .int f2, .int f3, .int f4, .int f5])), (b5, .inl (kI, 500, .inl (upd ka kn x))), (b6, .inl (kI, 500, .inl (upd kN kn k)))] := hD
        refine lv_goto (tgt := 143) hx hb dMod_store_57 (by decide) ?_
        exact hret  ((upd ka kn x, upd kN kn k, upd kv kn v, kn + 1)) _ _ _ (⟨by first | exact mN_add (mst_none hms hno) c14 | exact mN_nil (mst_none hms hno) c14 | exact mN_del hs1 c66 | exact mN_set hs1 c66, by first | exact mst_add hms hno c14 hr5 | (rw [c14, mU_self (mst_none hms hno)]; exact hms) | exact mst_set hms hq hqa c66 | (rw [c66]; exact mst_del hms hq hqa)⟩) (hP.sub [1, 2, 3, 0] rfl) (hD.sub [1, 2, 3, 0] (by decide) rfl) hS dMod_store_143
  · have hs1 : σ (xSlot x k) ≠ 0 := by rw [(mst_some hms hq hqa).1]; exact (mst_some hms hq hqa).2
    refine XM.callVi (As := [.int x, .int k]) (rest := []) (wr := [(b7, .inl (kI, 500, .inl kv))]) stX_ok ⟨hx, hb, hml, hown, hts⟩ (kM_keyS l dC dI kI kJ kZ m0 b1 b2 b3 b4 b5 b6 b7 b8 b9 b10 b11 b12 b13 b14 b15 b16 b17 b18 b19 b20 b21 b22 b23 b24 nA kn ln an f0 f2 f3 f4 f5 f1 ka kN x k q (by first | assumption | omega) (by first | assumption | omega) (by first | assumption | omega) (by first | assumption | omega)) (cwV 2 hts (x_gV gw792 gw794 gw21 gw43 gw795) rfl rfl rfl (by decide +kernel) ⟨Nat.le_of_ble_eq_true rfl, Nat.le_of_ble_eq_true rfl⟩) hK hP hD hS hA hX [0, 1, 2] [3] rfl rfl (by decide) (by decide) (by decide) rfl rfl rfl rfl hl.1 (Nat.le_of_ble_eq_true rfl) dMod_store_3 ⟨Nat.le_of_ble_eq_true rfl, Nat.le_of_ble_eq_true rfl⟩ (fun r_4 u_3 H locs hw hP hD hS => ?_)
    obtain rfl := hw
    have hP : va_P (dC, dI) xCl [(b7, .inl (kI, 500, .inl kv)), (m0, .inr (6, [.int f0, .int (nI nA), .ref b1, .ref b2, .ref b3, .ref b4, .ref b5, .ref b6, .ref b7, .int (nI kn), .ref b8, .int (nI ln), .ref b9, .ref b10, .ref b11, .ref b12, .ref b13, .ref b14, .int f1, .ref b15, .ref b16, .ref b17, .ref b18, .ref b19, .ref b20, .ref b21, .ref b22, .ref b23, .ref b24, .int (nI an), .int f2, .int f3, .int f4, .int f5])), (b5, .inl (kI, 500, .inl ka)), (b6, .inl (kI, 500, .inl kN))] H := hP
    have hD : va_D A [(b7, .inl (kI, 500, .inl kv)), (m0, .inr (6, [.int f0, .int (nI nA), .ref b1, .ref b2, .ref b3, .ref b4, .ref b5, .ref b6, .ref b7, .int (nI kn), .ref b8, .int (nI ln), .ref b9, .ref b10, .ref b11, .ref b12, .ref b13, .ref b14, .int f1, .ref b15, .ref b16, .ref b17, .ref b18, .ref b19, .ref b20, .ref b21, .ref b22, .ref b23, .ref b24, .int (nI an), .int f2, .int f3, .int f4, .int f5])), (b5, .inl (kI, 500, .inl ka)), (b6, .inl (kI, 500, .inl kN))] := hD
    refine lv_istore (lv' := [(4, .int (nI q)), (0, .ref m0), (1, .int x), (2, .int k), (3, .int v)]) hx hb dMod_store_6 hl (by decide) rfl (fun ls hl => ?_)
    refine lv_iload hx hb dMod_store_8 (lv_at hl 0 rfl) ?_
    refine lv_if_ge (tgt := 60) hx hb dMod_store_10 (by decide) (fun c10 => ?_) (fun c10 => ?_)
    · have c10 : 0 ≤ q := (nI_leI (a := 0) (b := q) (by omega) (by omega)).mp c10
      refine lv_iload hx hb dMod_store_60 (lv_at hl 0 rfl) ?_
      refine lv_if_lt (tgt := 130) hx hb dMod_store_62 (by decide) (fun c62 => ?_) (fun c62 => ?_)
      · have c62 : q < 0 := (nI_ltI (a := q) (b := 0) (by omega) (by omega)).mp c62
        exfalso; omega
      · have c62 : ¬ (q < 0) := fun z9 => c62 ((nI_ltI (a := q) (b := 0) (by omega) (by omega)).mpr z9)
        refine lv_iload_n hx hb dMod_store_65 rfl (lv_at hl 4 rfl) ?_
        refine lv_if_ne (tgt := 130) hx hb dMod_store_66 (by decide) (fun c66 => ?_) (fun c66 => ?_)
        · refine lv_iload hx hb dMod_store_130 (lv_at hl 0 rfl) ?_
          refine lv_if_lt (tgt := 143) hx hb dMod_store_132 (by decide) (fun c132 => ?_) (fun c132 => ?_)
          · have c132 : q < 0 := (nI_ltI (a := q) (b := 0) (by omega) (by omega)).mp c132
            exfalso; omega
          · have c132 : ¬ (q < 0) := fun z9 => c132 ((nI_ltI (a := q) (b := 0) (by omega) (by omega)).mpr z9)
            refine lv_aload_n hx hb dMod_store_135 rfl (lv_at hl 1 rfl) ?_
            refine va_get (D := (dC, dI)) (ci := 6) (v := .ref b7) (C := RMod) (T := TMod) (N := 34) hx hb hts (fun w h => List.mem_cons_of_mem _ (layMod w h)) hown hK hP 1 rfl rfl 8 (by decide) (hts (.fieldLink RMod 29 "CallLedgerModel" "keyValues" "[I") (List.mem_cons_of_mem _ gw652)) (fun _ h9 => h9) rfl dMod_store_136 ?_
            refine lv_iload hx hb dMod_store_139 (lv_at hl 0 rfl) ?_
            refine lv_iload_n hx hb dMod_store_141 rfl (lv_at hl 4 rfl) ?_
            refine x_iast (j := q) hx hb hK hP hD hS 0 0 rfl rfl rfl (by omega) (by omega) dMod_store_142 (fun H locs hP hD hS => ?_)
            have hP : va_P (dC, dI) xCl [(b7, .inl (kI, 500, .inl (upd kv q v))), (m0, .inr (6, [.int f0, .int (nI nA), .ref b1, .ref b2, .ref b3, .ref b4, .ref b5, .ref b6, .ref b7, .int (nI kn), .ref b8, .int (nI ln), .ref b9, .ref b10, .ref b11, .ref b12, .ref b13, .ref b14, .int f1, .ref b15, .ref b16, .ref b17, .ref b18, .ref b19, .ref b20, .ref b21, .ref b22, .ref b23, .ref b24, .int (nI an), .int f2, .int f3, .int f4, .int f5])), (b5, .inl (kI, 500, .inl ka)), (b6, .inl (kI, 500, .inl kN))] H := hP
            have hD : va_D A [(b7, .inl (kI, 500, .inl (upd kv q v))), (m0, .inr (6, [.int f0, .int (nI nA), .ref b1, .ref b2, .ref b3, .ref b4, .ref b5, .ref b6, .ref b7, .int (nI kn), .ref b8, .int (nI ln), .ref b9, .ref b10, .ref b11, .ref b12, .ref b13, .ref b14, .int f1, .ref b15, .ref b16, .ref b17, .ref b18, .ref b19, .ref b20, .ref b21, .ref b22, .ref b23, .ref b24, .int (nI an), .int f2, .int f3, .int f4, .int f5])), (b5, .inl (kI, 500, .inl ka)), (b6, .inl (kI, 500, .inl kN))] := hD
            exact hret  ((ka, kN, upd kv q v, kn)) _ _ _ (⟨by first | exact mN_add (mst_none hms hno) c14 | exact mN_nil (mst_none hms hno) c14 | exact mN_del hs1 c66 | exact mN_set hs1 c66, by first | exact mst_add hms hno c14 hr5 | (rw [c14, mU_self (mst_none hms hno)]; exact hms) | exact mst_set hms hq hqa c66 | (rw [c66]; exact mst_del hms hq hqa)⟩) (hP.sub [1, 2, 3, 0] rfl) (hD.sub [1, 2, 3, 0] (by decide) rfl) hS dMod_store_143
        · refine lv_aload_n hx hb dMod_store_69 rfl (lv_at hl 1 rfl) ?_
          refine lv_dup hx hb dMod_store_70 rfl ?_
          refine va_get (D := (dC, dI)) (ci := 6) (v := .int (nI kn)) (C := RMod) (T := TMod) (N := 34) hx hb hts (fun w h => List.mem_cons_of_mem _ (layMod w h)) hown hK hP 1 rfl rfl 9 (by decide) (hts (.fieldLink RMod 107 "CallLedgerModel" "keys" "I") (List.mem_cons_of_mem _ gw653)) (fun _ h9 => h9) rfl dMod_store_71 ?_
          refine lv_iconst (v := 1) hx hb dMod_store_74 (by decide) ?_
          refine lv_isub hx hb dMod_store_75 ?_
          refine x_topi (y := nI (kn - 1)) (x_pred (by omega)) ?_
          refine va_put (D := (dC, dI)) (ci := 6) (v := .int (nI (kn - 1))) (ty := .int) (C := RMod) (T := TMod) (N := 34) hx hb hts (fun w h => List.mem_cons_of_mem _ (layMod w h)) tyMod tykMod nmMod hown hK hP hD hS 1 rfl rfl 9 (by decide) (hts (.fieldLink RMod 107 "CallLedgerModel" "keys" "I") (List.mem_cons_of_mem _ gw653)) (fun _ h9 => h9) rfl (by decide +kernel) rfl rfl (Nat.le_of_ble_eq_true rfl) dMod_store_76 (fun H locs hP hD hS => ?_)
          have hP : va_P (dC, dI) xCl [(b7, .inl (kI, 500, .inl kv)), (m0, .inr (6, [.int f0, .int (nI nA), .ref b1, .ref b2, .ref b3, .ref b4, .ref b5, .ref b6, .ref b7, .int (nI (kn - 1)), .ref b8, .int (nI ln), .ref b9, .ref b10, .ref b11, .ref b12, .ref b13, .ref b14, .int f1, .ref b15, .ref b16, .ref b17, .ref b18, .ref b19, .ref b20, .ref b21, .ref b22, .ref b23, .ref b24, .int (nI an), .int f2, .int f3, .int f4, .int f5])), (b5, .inl (kI, 500, .inl ka)), (b6, .inl (kI, 500, .inl kN))] H := hP
          have hD : va_D A [(b7, .inl (kI, 500, .inl kv)), (m0, .inr (6, [.int f0, .int (nI nA), .ref b1, .ref b2, .ref b3, .ref b4, .ref b5, .ref b6, .ref b7, .int (nI (kn - 1)), .ref b8, .int (nI ln), .ref b9, .ref b10, .ref b11, .ref b12, .ref b13, .ref b14, .int f1, .ref b15, .ref b16, .ref b17, .ref b18, .ref b19, .ref b20, .ref b21, .ref b22, .ref b23, .ref b24, .int (nI an), .int f2, .int f3, .int f4, .int f5])), (b5, .inl (kI, 500, .inl ka)), (b6, .inl (kI, 500, .inl kN))] := hD
          refine lv_aload_n hx hb dMod_store_79 rfl (lv_at hl 1 rfl) ?_
          refine va_get (D := (dC, dI)) (ci := 6) (v := .ref b5) (C := RMod) (T := TMod) (N := 34) hx hb hts (fun w h => List.mem_cons_of_mem _ (layMod w h)) hown hK hP 1 rfl rfl 6 (by decide) (hts (.fieldLink RMod 23 "CallLedgerModel" "keyAccounts" "[I") (List.mem_cons_of_mem _ gw650)) (fun _ h9 => h9) rfl dMod_store_80 ?_
          refine lv_iload hx hb dMod_store_83 (lv_at hl 0 rfl) ?_
          refine lv_aload_n hx hb dMod_store_85 rfl (lv_at hl 1 rfl) ?_
          refine va_get (D := (dC, dI)) (ci := 6) (v := .ref b5) (C := RMod) (T := TMod) (N := 34) hx hb hts (fun w h => List.mem_cons_of_mem _ (layMod w h)) hown hK hP 1 rfl rfl 6 (by decide) (hts (.fieldLink RMod 23 "CallLedgerModel" "keyAccounts" "[I") (List.mem_cons_of_mem _ gw650)) (fun _ h9 => h9) rfl dMod_store_86 ?_
          refine lv_aload_n hx hb dMod_store_89 rfl (lv_at hl 1 rfl) ?_
          refine va_get (D := (dC, dI)) (ci := 6) (v := .int (nI (kn - 1))) (C := RMod) (T := TMod) (N := 34) hx hb hts (fun w h => List.mem_cons_of_mem _ (layMod w h)) hown hK hP 1 rfl rfl 9 (by decide) (hts (.fieldLink RMod 107 "CallLedgerModel" "keys" "I") (List.mem_cons_of_mem _ gw653)) (fun _ h9 => h9) rfl dMod_store_90 ?_
          refine x_iald (j := kn - 1) hx hb hK hP 2 0 rfl rfl rfl (by omega) (by omega) dMod_store_93 ?_
          refine x_iast (j := q) hx hb hK hP hD hS 2 0 rfl rfl rfl (by omega) (by omega) dMod_store_94 (fun H locs hP hD hS => ?_)
          have hP : va_P (dC, dI) xCl [(b7, .inl (kI, 500, .inl kv)), (m0, .inr (6, [.int f0, .int (nI nA), .ref b1, .ref b2, .ref b3, .ref b4, .ref b5, .ref b6, .ref b7, .int (nI (kn - 1)), .ref b8, .int (nI ln), .ref b9, .ref b10, .ref b11, .ref b12, .ref b13, .ref b14, .int f1, .ref b15, .ref b16, .ref b17, .ref b18, .ref b19, .ref b20, .ref b21, .ref b22, .ref b23, .ref b24, .int (nI an), .int f2, .int f3, .int f4, .int f5])), (b5, .inl (kI, 500, .inl (upd ka q (ka (kn - 1))))), (b6, .inl (kI, 500, .inl kN))] H := hP
          have hD : va_D A [(b7, .inl (kI, 500, .inl kv)), (m0, .inr (6, [.int f0, .int (nI nA), .ref b1, .ref b2, .ref b3, .ref b4, .ref b5, .ref b6, .ref b7, .int (nI (kn - 1)), .ref b8, .int (nI ln), .ref b9, .ref b10, .ref b11, .ref b12, .ref b13, .ref b14, .int f1, .ref b15, .ref b16, .ref b17, .ref b18, .ref b19, .ref b20, .ref b21, .ref b22, .ref b23, .ref b24, .int (nI an), .int f2, .int f3, .int f4, .int f5])), (b5, .inl (kI, 500, .inl (upd ka q (ka (kn - 1))))), (b6, .inl (kI, 500, .inl kN))] := hD
          refine lv_aload_n hx hb dMod_store_95 rfl (lv_at hl 1 rfl) ?_
          refine va_get (D := (dC, dI)) (ci := 6) (v := .ref b6) (C := RMod) (T := TMod) (N := 34) hx hb hts (fun w h => List.mem_cons_of_mem _ (layMod w h)) hown hK hP 1 rfl rfl 7 (by decide) (hts (.fieldLink RMod 26 "CallLedgerModel" "keyNames" "[I") (List.mem_cons_of_mem _ gw651)) (fun _ h9 => h9) rfl dMod_store_96 ?_
          refine lv_iload hx hb dMod_store_99 (lv_at hl 0 rfl) ?_
          refine lv_aload_n hx hb dMod_store_101 rfl (lv_at hl 1 rfl) ?_
          refine va_get (D := (dC, dI)) (ci := 6) (v := .ref b6) (C := RMod) (T := TMod) (N := 34) hx hb hts (fun w h => List.mem_cons_of_mem _ (layMod w h)) hown hK hP 1 rfl rfl 7 (by decide) (hts (.fieldLink RMod 26 "CallLedgerModel" "keyNames" "[I") (List.mem_cons_of_mem _ gw651)) (fun _ h9 => h9) rfl dMod_store_102 ?_
          refine lv_aload_n hx hb dMod_store_105 rfl (lv_at hl 1 rfl) ?_
          refine va_get (D := (dC, dI)) (ci := 6) (v := .int (nI (kn - 1))) (C := RMod) (T := TMod) (N := 34) hx hb hts (fun w h => List.mem_cons_of_mem _ (layMod w h)) hown hK hP 1 rfl rfl 9 (by decide) (hts (.fieldLink RMod 107 "CallLedgerModel" "keys" "I") (List.mem_cons_of_mem _ gw653)) (fun _ h9 => h9) rfl dMod_store_106 ?_
          refine x_iald (j := kn - 1) hx hb hK hP 3 0 rfl rfl rfl (by omega) (by omega) dMod_store_109 ?_
          refine x_iast (j := q) hx hb hK hP hD hS 3 0 rfl rfl rfl (by omega) (by omega) dMod_store_110 (fun H locs hP hD hS => ?_)
          have hP : va_P (dC, dI) xCl [(b7, .inl (kI, 500, .inl kv)), (m0, .inr (6, [.int f0, .int (nI nA), .ref b1, .ref b2, .ref b3, .ref b4, .ref b5, .ref b6, .ref b7, .int (nI (kn - 1)), .ref b8, .int (nI ln), .ref b9, .ref b10, .ref b11, .ref b12, .ref b13, .ref b14, .int f1, .ref b15, .ref b16, .ref b17, .ref b18, .ref b19, .ref b20, .ref b21, .ref b22, .ref b23, .ref b24, .int (nI an), .int f2, .int f3, .int f4, .int f5])), (b5, .inl (kI, 500, .inl (upd ka q (ka (kn - 1))))), (b6, .inl (kI, 500, .inl (upd kN q (kN (kn - 1)))))] H := hP
          have hD : va_D A [(b7, .inl (kI, 500, .inl kv)), (m0, .inr (6, [.int f0, .int (nI nA), .ref b1, .ref b2, .ref b3, .ref b4, .ref b5, .ref b6, .ref b7, .int (nI (kn - 1)), .ref b8, .int (nI ln), .ref b9, .ref b10, .ref b11, .ref b12, .ref b13, .ref b14, .int f1, .ref b15, .ref b16, .ref b17, .ref b18, .ref b19, .ref b20, .ref b21, .ref b22, .ref b23, .ref b24, .int (nI an), .int f2, .int f3, .int f4, .int f5])), (b5, .inl (kI, 500, .inl (upd ka q (ka (kn - 1))))), (b6, .inl (kI, 500, .inl (upd kN q (kN (kn - 1)))))] := hD
          refine lv_aload_n hx hb dMod_store_111 rfl (lv_at hl 1 rfl) ?_
          refine va_get (D := (dC, dI)) (ci := 6) (v := .ref b7) (C := RMod) (T := TMod) (N := 34) hx hb hts (fun w h => List.mem_cons_of_mem _ (layMod w h)) hown hK hP 1 rfl rfl 8 (by decide) (hts (.fieldLink RMod 29 "CallLedgerModel" "keyValues" "[I") (List.mem_cons_of_mem _ gw652)) (fun _ h9 => h9) rfl dMod_store_112 ?_
          refine lv_iload hx hb dMod_store_115 (lv_at hl 0 rfl) ?_
          refine lv_aload_n hx hb dMod_store_117 rfl (lv_at hl 1 rfl) ?_
          refine va_get (D := (dC, dI)) (ci := 6) (v := .ref b7) (C := RMod) (T := TMod) (N := 34) hx hb hts (fun w h => List.mem_cons_of_mem _ (layMod w h)) hown hK hP 1 rfl rfl 8 (by decide) (hts (.fieldLink RMod 29 "CallLedgerModel" "keyValues" "[I") (List.mem_cons_of_mem _ gw652)) (fun _ h9 => h9) rfl dMod_store_118 ?_
          refine lv_aload_n hx hb dMod_store_121 rfl (lv_at hl 1 rfl) ?_
          refine va_get (D := (dC, dI)) (ci := 6) (v := .int (nI (kn - 1))) (C := RMod) (T := TMod) (N := 34) hx hb hts (fun w h => List.mem_cons_of_mem _ (layMod w h)) hown hK hP 1 rfl rfl 9 (by decide) (hts (.fieldLink RMod 107 "CallLedgerModel" "keys" "I") (List.mem_cons_of_mem _ gw653)) (fun _ h9 => h9) rfl dMod_store_122 ?_
          refine x_iald (j := kn - 1) hx hb hK hP 0 0 rfl rfl rfl (by omega) (by omega) dMod_store_125 ?_
          refine x_iast (j := q) hx hb hK hP hD hS 0 0 rfl rfl rfl (by omega) (by omega) dMod_store_126 (fun H locs hP hD hS => ?_)
          have hP : va_P (dC, dI) xCl [(b7, .inl (kI, 500, .inl (upd kv q (kv (kn - 1))))), (m0, .inr (6, [.int f0, .int (nI nA), .ref b1, .ref b2, .ref b3, .ref b4, .ref b5, .ref b6, .ref b7, .int (nI (kn - 1)), .ref b8, .int (nI ln), .ref b9, .ref b10, .ref b11, .ref b12, .ref b13, .ref b14, .int f1, .ref b15, .ref b16, .ref b17, .ref b18, .ref b19, .ref b20, .ref b21, .ref b22, .ref b23, .ref b24, .int (nI an), .int f2, .int f3, .int f4, .int f5])), (b5, .inl (kI, 500, .inl (upd ka q (ka (kn - 1))))), (b6, .inl (kI, 500, .inl (upd kN q (kN (kn - 1)))))] H := hP
          have hD : va_D A [(b7, .inl (kI, 500, .inl (upd kv q (kv (kn - 1))))), (m0, .inr (6, [.int f0, .int (nI nA), .ref b1, .ref b2, .ref b3, .ref b4, .ref b5, .ref b6, .ref b7, .int (nI (kn - 1)), .ref b8, .int (nI ln), .ref b9, .ref b10, .ref b11, .ref b12, .ref b13, .ref b14, .int f1, .ref b15, .ref b16, .ref b17, .ref b18, .ref b19, .ref b20, .ref b21, .ref b22, .ref b23, .ref b24, .int (nI an), .int f2, .int f3, .int f4, .int f5])), (b5, .inl (kI, 500, .inl (upd ka q (ka (kn - 1))))), (b6, .inl (kI, 500, .inl (upd kN q (kN (kn - 1)))))] := hD
          refine lv_goto (tgt := 143) hx hb dMod_store_127 (by decide) ?_
          exact hret  ((upd ka q (ka (kn - 1)), upd kN q (kN (kn - 1)), upd kv q (kv (kn - 1)), kn - 1)) _ _ _ (⟨by first | exact mN_add (mst_none hms hno) c14 | exact mN_nil (mst_none hms hno) c14 | exact mN_del hs1 c66 | exact mN_set hs1 c66, by first | exact mst_add hms hno c14 hr5 | (rw [c14, mU_self (mst_none hms hno)]; exact hms) | exact mst_set hms hq hqa c66 | (rw [c66]; exact mst_del hms hq hqa)⟩) (hP.sub [1, 2, 3, 0] rfl) (hD.sub [1, 2, 3, 0] (by decide) rfl) hS dMod_store_143
    · have c10 : ¬ (0 ≤ q) := fun z9 => c10 ((nI_leI (a := 0) (b := q) (by omega) (by omega)).mpr z9)
      exfalso; omega

set_option maxHeartbeats 4000000 in
set_option maxRecDepth 100000 in
theorem kM_stoX (l : Launch) (dC : Nat → ClassId) (dI : Nat → Nat → Nat) (kI kJ kZ : ClassId) (m0 : Nat) (b1 : Nat) (b2 : Nat) (b3 : Nat) (b4 : Nat) (b5 : Nat) (b6 : Nat) (b7 : Nat) (b8 : Nat) (b9 : Nat) (b10 : Nat) (b11 : Nat) (b12 : Nat) (b13 : Nat) (b14 : Nat) (b15 : Nat) (b16 : Nat) (b17 : Nat) (b18 : Nat) (b19 : Nat) (b20 : Nat) (b21 : Nat) (b22 : Nat) (b23 : Nat) (b24 : Nat) (nA : Nat) (kn : Nat) (ln : Nat) (an : Nat) (f0 : Int32) (f2 : Int32) (f3 : Int32) (f4 : Int32) (f5 : Int32) (f1 : Int32) (x : Int32) (k : Int32) (hnA : nA ≤ 24) (hxa : xHas nA x = false) :
    XM stX l yMod_storage wMod_storage { frames := 1, cells := 0, slots := 0, locals := 21 } (dC, dI) xCl (x_T kI kJ kZ) [(m0, .inr (6, [.int f0, .int (nI nA), .ref b1, .ref b2, .ref b3, .ref b4, .ref b5, .ref b6, .ref b7, .int (nI kn), .ref b8, .int (nI ln), .ref b9, .ref b10, .ref b11, .ref b12, .ref b13, .ref b14, .int f1, .ref b15, .ref b16, .ref b17, .ref b18, .ref b19, .ref b20, .ref b21, .ref b22, .ref b23, .ref b24, .int (nI an), .int f2, .int f3, .int f4, .int f5]))] [.ref m0, .int x, .int k] 0 0 x_eI (fun (r : Int32) (u : Unit) => r = 0) (fun (u : Unit) => [(m0, .inr (6, [.int 1, .int (nI nA), .ref b1, .ref b2, .ref b3, .ref b4, .ref b5, .ref b6, .ref b7, .int (nI kn), .ref b8, .int (nI ln), .ref b9, .ref b10, .ref b11, .ref b12, .ref b13, .ref b14, .int f1, .ref b15, .ref b16, .ref b17, .ref b18, .ref b19, .ref b20, .ref b21, .ref b22, .ref b23, .ref b24, .int (nI an), .int f2, .int f3, .int f4, .int f5]))]) := by
  refine XM.ofI (cc := cMod_storage) (maxL := 3) (by decide) rfl (Nat.le_of_ble_eq_true rfl) ?_
  intro p e s m below meth c A Q hx hb hr hml hown hts hlocks hin hA hK hP hD hX hS ls hl hret
  have hl : lv_has ls 3 [(0, .ref m0), (1, .int x), (2, .int k)] := hl
  refine lv_aload_n hx hb dMod_storage_0 rfl (lv_at hl 0 rfl) ?_
  refine lv_aload_n hx hb dMod_storage_1 rfl (lv_at hl 0 rfl) ?_
  refine lv_iload_n hx hb dMod_storage_2 rfl (lv_at hl 1 rfl) ?_
  refine XM.callVi (As := [.int x]) (rest := [.ref m0]) (wr := []) stX_ok ⟨hx, hb, hml, hown, hts⟩ (kM_noAcc l dC dI kI kJ kZ m0 b1 b2 b3 b4 b5 b6 b7 b8 b9 b10 b11 b12 b13 b14 b15 b16 b17 b18 b19 b20 b21 b22 b23 b24 nA kn ln an f0 f2 f3 f4 f5 f1 x ) (cwV 1 hts (x_gV gw765 gw767 gw19 gw43 gw768) rfl rfl rfl (by decide +kernel) ⟨Nat.le_of_ble_eq_true rfl, Nat.le_of_ble_eq_true rfl⟩) hK hP hD hS hA hX [0] [] rfl rfl (by decide) (by decide) (by decide) rfl rfl rfl rfl hl.1 (Nat.le_of_ble_eq_true rfl) dMod_storage_3 ⟨Nat.le_of_ble_eq_true rfl, Nat.le_of_ble_eq_true rfl⟩ (fun r_2 u_1 H locs hw hP hD hS => ?_)
  obtain rfl := hw
  have hP : va_P (dC, dI) xCl [(m0, .inr (6, [.int f0, .int (nI nA), .ref b1, .ref b2, .ref b3, .ref b4, .ref b5, .ref b6, .ref b7, .int (nI kn), .ref b8, .int (nI ln), .ref b9, .ref b10, .ref b11, .ref b12, .ref b13, .ref b14, .int f1, .ref b15, .ref b16, .ref b17, .ref b18, .ref b19, .ref b20, .ref b21, .ref b22, .ref b23, .ref b24, .int (nI an), .int f2, .int f3, .int f4, .int f5]))] H := hP
  have hD : va_D A [(m0, .inr (6, [.int f0, .int (nI nA), .ref b1, .ref b2, .ref b3, .ref b4, .ref b5, .ref b6, .ref b7, .int (nI kn), .ref b8, .int (nI ln), .ref b9, .ref b10, .ref b11, .ref b12, .ref b13, .ref b14, .int f1, .ref b15, .ref b16, .ref b17, .ref b18, .ref b19, .ref b20, .ref b21, .ref b22, .ref b23, .ref b24, .int (nI an), .int f2, .int f3, .int f4, .int f5]))] := hD
  refine lv_if_eq (tgt := 13) hx hb dMod_storage_6 (by decide) (fun c6 => ?_) (fun c6 => ?_)
  · have c6 : (xHas nA x = true) := x_i01.mp c6
    exact absurd c6 (by rw [hxa]; decide)
  · have c6 : xHas nA x = false := Bool.eq_false_iff.mpr (fun z9 => c6 (x_i01.mpr z9))
    refine lv_iconst (v := 1) hx hb dMod_storage_9 (by decide) ?_
    refine lv_goto (tgt := 14) hx hb dMod_storage_10 (by decide) ?_
    refine va_put (D := (dC, dI)) (ci := 6) (v := .int 1) (ty := .int) (C := RMod) (T := TMod) (N := 34) hx hb hts (fun w h => List.mem_cons_of_mem _ (layMod w h)) tyMod tykMod nmMod hown hK hP hD hS 0 rfl rfl 0 (by decide) (hts (.fieldLink RMod 83 "CallLedgerModel" "thrown" "I") (List.mem_cons_of_mem _ gw644)) (fun _ h9 => h9) rfl (by decide +kernel) rfl rfl (Nat.le_of_ble_eq_true rfl) dMod_storage_14 (fun H locs hP hD hS => ?_)
    have hP : va_P (dC, dI) xCl [(m0, .inr (6, [.int 1, .int (nI nA), .ref b1, .ref b2, .ref b3, .ref b4, .ref b5, .ref b6, .ref b7, .int (nI kn), .ref b8, .int (nI ln), .ref b9, .ref b10, .ref b11, .ref b12, .ref b13, .ref b14, .int f1, .ref b15, .ref b16, .ref b17, .ref b18, .ref b19, .ref b20, .ref b21, .ref b22, .ref b23, .ref b24, .int (nI an), .int f2, .int f3, .int f4, .int f5]))] H := hP
    have hD : va_D A [(m0, .inr (6, [.int 1, .int (nI nA), .ref b1, .ref b2, .ref b3, .ref b4, .ref b5, .ref b6, .ref b7, .int (nI kn), .ref b8, .int (nI ln), .ref b9, .ref b10, .ref b11, .ref b12, .ref b13, .ref b14, .int f1, .ref b15, .ref b16, .ref b17, .ref b18, .ref b19, .ref b20, .ref b21, .ref b22, .ref b23, .ref b24, .int (nI an), .int f2, .int f3, .int f4, .int f5]))] := hD
    refine lv_aload_n hx hb dMod_storage_17 rfl (lv_at hl 0 rfl) ?_
    refine va_get (D := (dC, dI)) (ci := 6) (v := .int 1) (C := RMod) (T := TMod) (N := 34) hx hb hts (fun w h => List.mem_cons_of_mem _ (layMod w h)) hown hK hP 0 rfl rfl 0 (by decide) (hts (.fieldLink RMod 83 "CallLedgerModel" "thrown" "I") (List.mem_cons_of_mem _ gw644)) (fun _ h9 => h9) rfl dMod_storage_18 ?_
    refine lv_if_le (tgt := 28) hx hb dMod_storage_21 (by decide) (fun c21 => ?_) (fun c21 => ?_)
    · exact absurd c21 (by decide)
    · refine lv_iconst (v := 0) hx hb dMod_storage_24 (by decide) ?_
      refine lv_goto (tgt := 34) hx hb dMod_storage_25 (by decide) ?_
      exact hret 0 (()) _ _ _ (rfl) (hP.sub [0] rfl) (hD.sub [0] (by decide) rfl) hS dMod_storage_34

set_option maxHeartbeats 4000000 in
set_option maxRecDepth 100000 in
theorem kM_sto (l : Launch) (dC : Nat → ClassId) (dI : Nat → Nat → Nat) (kI kJ kZ : ClassId) (m0 : Nat) (b1 : Nat) (b2 : Nat) (b3 : Nat) (b4 : Nat) (b5 : Nat) (b6 : Nat) (b7 : Nat) (b8 : Nat) (b9 : Nat) (b10 : Nat) (b11 : Nat) (b12 : Nat) (b13 : Nat) (b14 : Nat) (b15 : Nat) (b16 : Nat) (b17 : Nat) (b18 : Nat) (b19 : Nat) (b20 : Nat) (b21 : Nat) (b22 : Nat) (b23 : Nat) (b24 : Nat) (nA : Nat) (kn : Nat) (ln : Nat) (an : Nat) (f0 : Int32) (f2 : Int32) (f3 : Int32) (f4 : Int32) (f5 : Int32) (f1 : Int32) (ka : Nat → Int32) (kN : Nat → Int32) (kv : Nat → Int32) (σ : Int64 → Int32) (a : Nat) (k : Int32) (hnA : nA ≤ 24) (ha : a < nA) (hms : MST ka kN kv kn σ) :
    XM stX l yMod_storage wMod_storage { frames := 2, cells := 0, slots := 0, locals := 46 } (dC, dI) xCl (x_T kI kJ kZ) [(m0, .inr (6, [.int f0, .int (nI nA), .ref b1, .ref b2, .ref b3, .ref b4, .ref b5, .ref b6, .ref b7, .int (nI kn), .ref b8, .int (nI ln), .ref b9, .ref b10, .ref b11, .ref b12, .ref b13, .ref b14, .int f1, .ref b15, .ref b16, .ref b17, .ref b18, .ref b19, .ref b20, .ref b21, .ref b22, .ref b23, .ref b24, .int (nI an), .int f2, .int f3, .int f4, .int f5])), (b5, .inl (kI, 500, .inl ka)), (b6, .inl (kI, 500, .inl kN)), (b7, .inl (kI, 500, .inl kv))] [.ref m0, .int (nI a), .int k] 0 0 x_eI (fun (r : Int32) (u : Unit) => r = σ (xSlot (nI a) k)) (fun (u : Unit) => [(m0, .inr (6, [.int 0, .int (nI nA), .ref b1, .ref b2, .ref b3, .ref b4, .ref b5, .ref b6, .ref b7, .int (nI kn), .ref b8, .int (nI ln), .ref b9, .ref b10, .ref b11, .ref b12, .ref b13, .ref b14, .int f1, .ref b15, .ref b16, .ref b17, .ref b18, .ref b19, .ref b20, .ref b21, .ref b22, .ref b23, .ref b24, .int (nI an), .int f2, .int f3, .int f4, .int f5])), (b5, .inl (kI, 500, .inl ka)), (b6, .inl (kI, 500, .inl kN)), (b7, .inl (kI, 500, .inl kv))]) := by
  refine XM.ofI (cc := cMod_storage) (maxL := 3) (by decide) rfl (Nat.le_of_ble_eq_true rfl) ?_
  intro p e s m below meth c A Q hx hb hr hml hown hts hlocks hin hA hK hP hD hX hS ls hl hret
  have hl : lv_has ls 3 [(0, .ref m0), (1, .int (nI a)), (2, .int k)] := hl
  refine lv_aload_n hx hb dMod_storage_0 rfl (lv_at hl 0 rfl) ?_
  refine lv_aload_n hx hb dMod_storage_1 rfl (lv_at hl 0 rfl) ?_
  refine lv_iload_n hx hb dMod_storage_2 rfl (lv_at hl 1 rfl) ?_
  refine XM.callVi (As := [.int (nI a)]) (rest := [.ref m0]) (wr := [(b5, .inl (kI, 500, .inl ka)), (b6, .inl (kI, 500, .inl kN)), (b7, .inl (kI, 500, .inl kv))]) stX_ok ⟨hx, hb, hml, hown, hts⟩ (kM_noAcc l dC dI kI kJ kZ m0 b1 b2 b3 b4 b5 b6 b7 b8 b9 b10 b11 b12 b13 b14 b15 b16 b17 b18 b19 b20 b21 b22 b23 b24 nA kn ln an f0 f2 f3 f4 f5 f1 (nI a) ) (cwV 1 hts (x_gV gw765 gw767 gw19 gw43 gw768) rfl rfl rfl (by decide +kernel) ⟨Nat.le_of_ble_eq_true rfl, Nat.le_of_ble_eq_true rfl⟩) hK hP hD hS hA hX [0] [1, 2, 3] rfl rfl (by decide) (by decide) (by decide) rfl rfl rfl rfl hl.1 (Nat.le_of_ble_eq_true rfl) dMod_storage_3 ⟨Nat.le_of_ble_eq_true rfl, Nat.le_of_ble_eq_true rfl⟩ (fun r_2 u_1 H locs hw hP hD hS => ?_)
  obtain rfl := hw
  have hP : va_P (dC, dI) xCl [(b5, .inl (kI, 500, .inl ka)), (b6, .inl (kI, 500, .inl kN)), (b7, .inl (kI, 500, .inl kv)), (m0, .inr (6, [.int f0, .int (nI nA), .ref b1, .ref b2, .ref b3, .ref b4, .ref b5, .ref b6, .ref b7, .int (nI kn), .ref b8, .int (nI ln), .ref b9, .ref b10, .ref b11, .ref b12, .ref b13, .ref b14, .int f1, .ref b15, .ref b16, .ref b17, .ref b18, .ref b19, .ref b20, .ref b21, .ref b22, .ref b23, .ref b24, .int (nI an), .int f2, .int f3, .int f4, .int f5]))] H := hP
  have hD : va_D A [(b5, .inl (kI, 500, .inl ka)), (b6, .inl (kI, 500, .inl kN)), (b7, .inl (kI, 500, .inl kv)), (m0, .inr (6, [.int f0, .int (nI nA), .ref b1, .ref b2, .ref b3, .ref b4, .ref b5, .ref b6, .ref b7, .int (nI kn), .ref b8, .int (nI ln), .ref b9, .ref b10, .ref b11, .ref b12, .ref b13, .ref b14, .int f1, .ref b15, .ref b16, .ref b17, .ref b18, .ref b19, .ref b20, .ref b21, .ref b22, .ref b23, .ref b24, .int (nI an), .int f2, .int f3, .int f4, .int f5]))] := hD
  refine lv_if_eq (tgt := 13) hx hb dMod_storage_6 (by decide) (fun c6 => ?_) (fun c6 => ?_)
  · have c6 : (xHas nA (nI a) = true) := x_i01.mp c6
    refine lv_iconst (v := 0) hx hb dMod_storage_13 (by decide) ?_
    refine va_put (D := (dC, dI)) (ci := 6) (v := .int 0) (ty := .int) (C := RMod) (T := TMod) (N := 34) hx hb hts (fun w h => List.mem_cons_of_mem _ (layMod w h)) tyMod tykMod nmMod hown hK hP hD hS 3 rfl rfl 0 (by decide) (hts (.fieldLink RMod 83 "CallLedgerModel" "thrown" "I") (List.mem_cons_of_mem _ gw644)) (fun _ h9 => h9) rfl (by decide +kernel) rfl rfl (Nat.le_of_ble_eq_true rfl) dMod_storage_14 (fun H locs hP hD hS => ?_)
    have hP : va_P (dC, dI) xCl [(b5, .inl (kI, 500, .inl ka)), (b6, .inl (kI, 500, .inl kN)), (b7, .inl (kI, 500, .inl kv)), (m0, .inr (6, [.int 0, .int (nI nA), .ref b1, .ref b2, .ref b3, .ref b4, .ref b5, .ref b6, .ref b7, .int (nI kn), .ref b8, .int (nI ln), .ref b9, .ref b10, .ref b11, .ref b12, .ref b13, .ref b14, .int f1, .ref b15, .ref b16, .ref b17, .ref b18, .ref b19, .ref b20, .ref b21, .ref b22, .ref b23, .ref b24, .int (nI an), .int f2, .int f3, .int f4, .int f5]))] H := hP
    have hD : va_D A [(b5, .inl (kI, 500, .inl ka)), (b6, .inl (kI, 500, .inl kN)), (b7, .inl (kI, 500, .inl kv)), (m0, .inr (6, [.int 0, .int (nI nA), .ref b1, .ref b2, .ref b3, .ref b4, .ref b5, .ref b6, .ref b7, .int (nI kn), .ref b8, .int (nI ln), .ref b9, .ref b10, .ref b11, .ref b12, .ref b13, .ref b14, .int f1, .ref b15, .ref b16, .ref b17, .ref b18, .ref b19, .ref b20, .ref b21, .ref b22, .ref b23, .ref b24, .int (nI an), .int f2, .int f3, .int f4, .int f5]))] := hD
    refine lv_aload_n hx hb dMod_storage_17 rfl (lv_at hl 0 rfl) ?_
    refine va_get (D := (dC, dI)) (ci := 6) (v := .int 0) (C := RMod) (T := TMod) (N := 34) hx hb hts (fun w h => List.mem_cons_of_mem _ (layMod w h)) hown hK hP 3 rfl rfl 0 (by decide) (hts (.fieldLink RMod 83 "CallLedgerModel" "thrown" "I") (List.mem_cons_of_mem _ gw644)) (fun _ h9 => h9) rfl dMod_storage_18 ?_
    refine lv_if_le (tgt := 28) hx hb dMod_storage_21 (by decide) (fun c21 => ?_) (fun c21 => ?_)
    · refine lv_aload_n hx hb dMod_storage_28 rfl (lv_at hl 0 rfl) ?_
      refine lv_iload_n hx hb dMod_storage_29 rfl (lv_at hl 1 rfl) ?_
      refine lv_iload_n hx hb dMod_storage_30 rfl (lv_at hl 2 rfl) ?_
      refine XM.callVi (As := [.int (nI a), .int k]) (rest := []) (wr := []) stX_ok ⟨hx, hb, hml, hown, hts⟩ (kM_stored l dC dI kI kJ kZ m0 b1 b2 b3 b4 b5 b6 b7 b8 b9 b10 b11 b12 b13 b14 b15 b16 b17 b18 b19 b20 b21 b22 b23 b24 nA kn ln an 0 f2 f3 f4 f5 f1 ka kN kv σ (nI a) k (by first | assumption | omega)) (cwV 2 hts (x_gV gw788 gw790 gw20 gw43 gw791) rfl rfl rfl (by decide +kernel) ⟨Nat.le_of_ble_eq_true rfl, Nat.le_of_ble_eq_true rfl⟩) hK hP hD hS hA hX [3, 0, 1, 2] [] rfl rfl (by decide) (by decide) (by decide) rfl rfl rfl rfl hl.1 (Nat.le_of_ble_eq_true rfl) dMod_storage_31 ⟨Nat.le_of_ble_eq_true rfl, Nat.le_of_ble_eq_true rfl⟩ (fun r_4 u_3 H locs hw hP hD hS => ?_)
      obtain rfl := hw
      have hP : va_P (dC, dI) xCl [(m0, .inr (6, [.int 0, .int (nI nA), .ref b1, .ref b2, .ref b3, .ref b4, .ref b5, .ref b6, .ref b7, .int (nI kn), .ref b8, .int (nI ln), .ref b9, .ref b10, .ref b11, .ref b12, .ref b13, .ref b14, .int f1, .ref b15, .ref b16, .ref b17, .ref b18, .ref b19, .ref b20, .ref b21, .ref b22, .ref b23, .ref b24, .int (nI an), .int f2, .int f3, .int f4, .int f5])), (b5, .inl (kI, 500, .inl ka)), (b6, .inl (kI, 500, .inl kN)), (b7, .inl (kI, 500, .inl kv))] H := hP
      have hD : va_D A [(m0, .inr (6, [.int 0, .int (nI nA), .ref b1, .ref b2, .ref b3, .ref b4, .ref b5, .ref b6, .ref b7, .int (nI kn), .ref b8, .int (nI ln), .ref b9, .ref b10, .ref b11, .ref b12, .ref b13, .ref b14, .int f1, .ref b15, .ref b16, .ref b17, .ref b18, .ref b19, .ref b20, .ref b21, .ref b22, .ref b23, .ref b24, .int (nI an), .int f2, .int f3, .int f4, .int f5])), (b5, .inl (kI, 500, .inl ka)), (b6, .inl (kI, 500, .inl kN)), (b7, .inl (kI, 500, .inl kv))] := hD
      exact hret (σ (xSlot (nI a) k)) (()) _ _ _ (rfl) (hP.sub [0, 1, 2, 3] rfl) (hD.sub [0, 1, 2, 3] (by decide) rfl) hS dMod_storage_34
    · exact absurd c21 (by decide)
  · have c6 : xHas nA (nI a) = false := Bool.eq_false_iff.mpr (fun z9 => c6 (x_i01.mpr z9))
    exact absurd (xHas_nI ha (by omega)) (by rw [c6]; decide)

set_option maxHeartbeats 4000000 in
set_option maxRecDepth 100000 in
theorem kM_logX (l : Launch) (dC : Nat → ClassId) (dI : Nat → Nat → Nat) (kI kJ kZ : ClassId) (m0 : Nat) (b1 : Nat) (b2 : Nat) (b3 : Nat) (b4 : Nat) (b5 : Nat) (b6 : Nat) (b7 : Nat) (b8 : Nat) (b9 : Nat) (b10 : Nat) (b11 : Nat) (b12 : Nat) (b13 : Nat) (b14 : Nat) (b15 : Nat) (b16 : Nat) (b17 : Nat) (b18 : Nat) (b19 : Nat) (b20 : Nat) (b21 : Nat) (b22 : Nat) (b23 : Nat) (b24 : Nat) (nA : Nat) (kn : Nat) (ln : Nat) (an : Nat) (f0 : Int32) (f2 : Int32) (f3 : Int32) (f4 : Int32) (f5 : Int32) (f1 : Int32) (x : Int32) (hln : ln ≤ 300) (hxa : xHas ln x = false) :
    XM stX l yMod_log wMod_log { frames := 0, cells := 0, slots := 0, locals := 0 } (dC, dI) xCl (x_T kI kJ kZ) [(m0, .inr (6, [.int f0, .int (nI nA), .ref b1, .ref b2, .ref b3, .ref b4, .ref b5, .ref b6, .ref b7, .int (nI kn), .ref b8, .int (nI ln), .ref b9, .ref b10, .ref b11, .ref b12, .ref b13, .ref b14, .int f1, .ref b15, .ref b16, .ref b17, .ref b18, .ref b19, .ref b20, .ref b21, .ref b22, .ref b23, .ref b24, .int (nI an), .int f2, .int f3, .int f4, .int f5]))] [.ref m0, .int x] 0 0 x_eI (fun (r : Int32) (u : Unit) => r = 0) (fun (u : Unit) => [(m0, .inr (6, [.int 1, .int (nI nA), .ref b1, .ref b2, .ref b3, .ref b4, .ref b5, .ref b6, .ref b7, .int (nI kn), .ref b8, .int (nI ln), .ref b9, .ref b10, .ref b11, .ref b12, .ref b13, .ref b14, .int f1, .ref b15, .ref b16, .ref b17, .ref b18, .ref b19, .ref b20, .ref b21, .ref b22, .ref b23, .ref b24, .int (nI an), .int f2, .int f3, .int f4, .int f5]))]) := by
  refine XM.ofI (cc := cMod_log) (maxL := 2) (by decide) rfl (Nat.le_of_ble_eq_true rfl) ?_
  intro p e s m below meth c A Q hx hb hr hml hown hts hlocks hin hA hK hP hD hX hS ls hl hret
  have hl : lv_has ls 2 [(0, .ref m0), (1, .int x)] := hl
  refine lv_aload_n hx hb dMod_log_0 rfl (lv_at hl 0 rfl) ?_
  refine lv_iload_n hx hb dMod_log_1 rfl (lv_at hl 1 rfl) ?_
  refine lv_if_lt (tgt := 13) hx hb dMod_log_2 (by decide) (fun c2 => ?_) (fun c2 => ?_)
  · refine lv_iconst (v := 1) hx hb dMod_log_13 (by decide) ?_
    refine lv_goto (tgt := 18) hx hb dMod_log_14 (by decide) ?_
    refine va_put (D := (dC, dI)) (ci := 6) (v := .int 1) (ty := .int) (C := RMod) (T := TMod) (N := 34) hx hb hts (fun w h => List.mem_cons_of_mem _ (layMod w h)) tyMod tykMod nmMod hown hK hP hD hS 0 rfl rfl 0 (by decide) (hts (.fieldLink RMod 83 "CallLedgerModel" "thrown" "I") (List.mem_cons_of_mem _ gw644)) (fun _ h9 => h9) rfl (by decide +kernel) rfl rfl (Nat.le_of_ble_eq_true rfl) dMod_log_18 (fun H locs hP hD hS => ?_)
    have hP : va_P (dC, dI) xCl [(m0, .inr (6, [.int 1, .int (nI nA), .ref b1, .ref b2, .ref b3, .ref b4, .ref b5, .ref b6, .ref b7, .int (nI kn), .ref b8, .int (nI ln), .ref b9, .ref b10, .ref b11, .ref b12, .ref b13, .ref b14, .int f1, .ref b15, .ref b16, .ref b17, .ref b18, .ref b19, .ref b20, .ref b21, .ref b22, .ref b23, .ref b24, .int (nI an), .int f2, .int f3, .int f4, .int f5]))] H := hP
    have hD : va_D A [(m0, .inr (6, [.int 1, .int (nI nA), .ref b1, .ref b2, .ref b3, .ref b4, .ref b5, .ref b6, .ref b7, .int (nI kn), .ref b8, .int (nI ln), .ref b9, .ref b10, .ref b11, .ref b12, .ref b13, .ref b14, .int f1, .ref b15, .ref b16, .ref b17, .ref b18, .ref b19, .ref b20, .ref b21, .ref b22, .ref b23, .ref b24, .int (nI an), .int f2, .int f3, .int f4, .int f5]))] := hD
    refine lv_aload_n hx hb dMod_log_21 rfl (lv_at hl 0 rfl) ?_
    refine va_get (D := (dC, dI)) (ci := 6) (v := .int 1) (C := RMod) (T := TMod) (N := 34) hx hb hts (fun w h => List.mem_cons_of_mem _ (layMod w h)) hown hK hP 0 rfl rfl 0 (by decide) (hts (.fieldLink RMod 83 "CallLedgerModel" "thrown" "I") (List.mem_cons_of_mem _ gw644)) (fun _ h9 => h9) rfl dMod_log_22 ?_
    refine lv_if_le (tgt := 32) hx hb dMod_log_25 (by decide) (fun c25 => ?_) (fun c25 => ?_)
    · exact absurd c25 (by decide)
    · refine lv_iconst (v := 0) hx hb dMod_log_28 (by decide) ?_
      refine lv_goto (tgt := 38) hx hb dMod_log_29 (by decide) ?_
      exact hret 0 (()) _ _ _ (rfl) (hP.sub [0] rfl) (hD.sub [0] (by decide) rfl) hS dMod_log_38
  · refine lv_iload_n hx hb dMod_log_5 rfl (lv_at hl 1 rfl) ?_
    refine lv_aload_n hx hb dMod_log_6 rfl (lv_at hl 0 rfl) ?_
    refine va_get (D := (dC, dI)) (ci := 6) (v := .int (nI ln)) (C := RMod) (T := TMod) (N := 34) hx hb hts (fun w h => List.mem_cons_of_mem _ (layMod w h)) hown hK hP 0 rfl rfl 11 (by decide) (hts (.fieldLink RMod 117 "CallLedgerModel" "logged" "I") (List.mem_cons_of_mem _ gw655)) (fun _ h9 => h9) rfl dMod_log_7 ?_
    refine lv_icmp_lt (tgt := 17) hx hb dMod_log_10 (by decide) (fun c10 => ?_) (fun c10 => ?_)
    · exact absurd (xHas_t c2 (Int32.not_le.mpr c10)) (by rw [hxa]; decide)
    · refine lv_iconst (v := 1) hx hb dMod_log_13 (by decide) ?_
      refine lv_goto (tgt := 18) hx hb dMod_log_14 (by decide) ?_
      refine va_put (D := (dC, dI)) (ci := 6) (v := .int 1) (ty := .int) (C := RMod) (T := TMod) (N := 34) hx hb hts (fun w h => List.mem_cons_of_mem _ (layMod w h)) tyMod tykMod nmMod hown hK hP hD hS 0 rfl rfl 0 (by decide) (hts (.fieldLink RMod 83 "CallLedgerModel" "thrown" "I") (List.mem_cons_of_mem _ gw644)) (fun _ h9 => h9) rfl (by decide +kernel) rfl rfl (Nat.le_of_ble_eq_true rfl) dMod_log_18 (fun H locs hP hD hS => ?_)
      have hP : va_P (dC, dI) xCl [(m0, .inr (6, [.int 1, .int (nI nA), .ref b1, .ref b2, .ref b3, .ref b4, .ref b5, .ref b6, .ref b7, .int (nI kn), .ref b8, .int (nI ln), .ref b9, .ref b10, .ref b11, .ref b12, .ref b13, .ref b14, .int f1, .ref b15, .ref b16, .ref b17, .ref b18, .ref b19, .ref b20, .ref b21, .ref b22, .ref b23, .ref b24, .int (nI an), .int f2, .int f3, .int f4, .int f5]))] H := hP
      have hD : va_D A [(m0, .inr (6, [.int 1, .int (nI nA), .ref b1, .ref b2, .ref b3, .ref b4, .ref b5, .ref b6, .ref b7, .int (nI kn), .ref b8, .int (nI ln), .ref b9, .ref b10, .ref b11, .ref b12, .ref b13, .ref b14, .int f1, .ref b15, .ref b16, .ref b17, .ref b18, .ref b19, .ref b20, .ref b21, .ref b22, .ref b23, .ref b24, .int (nI an), .int f2, .int f3, .int f4, .int f5]))] := hD
      refine lv_aload_n hx hb dMod_log_21 rfl (lv_at hl 0 rfl) ?_
      refine va_get (D := (dC, dI)) (ci := 6) (v := .int 1) (C := RMod) (T := TMod) (N := 34) hx hb hts (fun w h => List.mem_cons_of_mem _ (layMod w h)) hown hK hP 0 rfl rfl 0 (by decide) (hts (.fieldLink RMod 83 "CallLedgerModel" "thrown" "I") (List.mem_cons_of_mem _ gw644)) (fun _ h9 => h9) rfl dMod_log_22 ?_
      refine lv_if_le (tgt := 32) hx hb dMod_log_25 (by decide) (fun c25 => ?_) (fun c25 => ?_)
      · exact absurd c25 (by decide)
      · refine lv_iconst (v := 0) hx hb dMod_log_28 (by decide) ?_
        refine lv_goto (tgt := 38) hx hb dMod_log_29 (by decide) ?_
        exact hret 0 (()) _ _ _ (rfl) (hP.sub [0] rfl) (hD.sub [0] (by decide) rfl) hS dMod_log_38

set_option maxHeartbeats 4000000 in
set_option maxRecDepth 100000 in
theorem kM_log (l : Launch) (dC : Nat → ClassId) (dI : Nat → Nat → Nat) (kI kJ kZ : ClassId) (m0 : Nat) (b1 : Nat) (b2 : Nat) (b3 : Nat) (b4 : Nat) (b5 : Nat) (b6 : Nat) (b7 : Nat) (b8 : Nat) (b9 : Nat) (b10 : Nat) (b11 : Nat) (b12 : Nat) (b13 : Nat) (b14 : Nat) (b15 : Nat) (b16 : Nat) (b17 : Nat) (b18 : Nat) (b19 : Nat) (b20 : Nat) (b21 : Nat) (b22 : Nat) (b23 : Nat) (b24 : Nat) (nA : Nat) (kn : Nat) (ln : Nat) (an : Nat) (f0 : Int32) (f2 : Int32) (f3 : Int32) (f4 : Int32) (f5 : Int32) (f1 : Int32) (lf : Nat → Int32) (j : Nat) (hln : ln ≤ 300) (hj : j < ln) :
    XM stX l yMod_log wMod_log { frames := 0, cells := 0, slots := 0, locals := 0 } (dC, dI) xCl (x_T kI kJ kZ) [(m0, .inr (6, [.int f0, .int (nI nA), .ref b1, .ref b2, .ref b3, .ref b4, .ref b5, .ref b6, .ref b7, .int (nI kn), .ref b8, .int (nI ln), .ref b9, .ref b10, .ref b11, .ref b12, .ref b13, .ref b14, .int f1, .ref b15, .ref b16, .ref b17, .ref b18, .ref b19, .ref b20, .ref b21, .ref b22, .ref b23, .ref b24, .int (nI an), .int f2, .int f3, .int f4, .int f5])), (b8, .inl (kI, 300, .inl lf))] [.ref m0, .int (nI j)] 0 0 x_eI (fun (r : Int32) (u : Unit) => r = lf j) (fun (u : Unit) => [(m0, .inr (6, [.int 0, .int (nI nA), .ref b1, .ref b2, .ref b3, .ref b4, .ref b5, .ref b6, .ref b7, .int (nI kn), .ref b8, .int (nI ln), .ref b9, .ref b10, .ref b11, .ref b12, .ref b13, .ref b14, .int f1, .ref b15, .ref b16, .ref b17, .ref b18, .ref b19, .ref b20, .ref b21, .ref b22, .ref b23, .ref b24, .int (nI an), .int f2, .int f3, .int f4, .int f5])), (b8, .inl (kI, 300, .inl lf))]) := by
  refine XM.ofI (cc := cMod_log) (maxL := 2) (by decide) rfl (Nat.le_of_ble_eq_true rfl) ?_
  intro p e s m below meth c A Q hx hb hr hml hown hts hlocks hin hA hK hP hD hX hS ls hl hret
  have hl : lv_has ls 2 [(0, .ref m0), (1, .int (nI j))] := hl
  refine lv_aload_n hx hb dMod_log_0 rfl (lv_at hl 0 rfl) ?_
  refine lv_iload_n hx hb dMod_log_1 rfl (lv_at hl 1 rfl) ?_
  refine lv_if_lt (tgt := 13) hx hb dMod_log_2 (by decide) (fun c2 => ?_) (fun c2 => ?_)
  · have c2 : j < 0 := (nI_ltI (a := j) (b := 0) (by omega) (by omega)).mp c2
    exfalso; omega
  · have c2 : ¬ (j < 0) := fun z9 => c2 ((nI_ltI (a := j) (b := 0) (by omega) (by omega)).mpr z9)
    refine lv_iload_n hx hb dMod_log_5 rfl (lv_at hl 1 rfl) ?_
    refine lv_aload_n hx hb dMod_log_6 rfl (lv_at hl 0 rfl) ?_
    refine va_get (D := (dC, dI)) (ci := 6) (v := .int (nI ln)) (C := RMod) (T := TMod) (N := 34) hx hb hts (fun w h => List.mem_cons_of_mem _ (layMod w h)) hown hK hP 0 rfl rfl 11 (by decide) (hts (.fieldLink RMod 117 "CallLedgerModel" "logged" "I") (List.mem_cons_of_mem _ gw655)) (fun _ h9 => h9) rfl dMod_log_7 ?_
    refine lv_icmp_lt (tgt := 17) hx hb dMod_log_10 (by decide) (fun c10 => ?_) (fun c10 => ?_)
    · have c10 : j < ln := (nI_ltI (a := j) (b := ln) (by omega) (by omega)).mp c10
      refine lv_iconst (v := 0) hx hb dMod_log_17 (by decide) ?_
      refine va_put (D := (dC, dI)) (ci := 6) (v := .int 0) (ty := .int) (C := RMod) (T := TMod) (N := 34) hx hb hts (fun w h => List.mem_cons_of_mem _ (layMod w h)) tyMod tykMod nmMod hown hK hP hD hS 0 rfl rfl 0 (by decide) (hts (.fieldLink RMod 83 "CallLedgerModel" "thrown" "I") (List.mem_cons_of_mem _ gw644)) (fun _ h9 => h9) rfl (by decide +kernel) rfl rfl (Nat.le_of_ble_eq_true rfl) dMod_log_18 (fun H locs hP hD hS => ?_)
      have hP : va_P (dC, dI) xCl [(m0, .inr (6, [.int 0, .int (nI nA), .ref b1, .ref b2, .ref b3, .ref b4, .ref b5, .ref b6, .ref b7, .int (nI kn), .ref b8, .int (nI ln), .ref b9, .ref b10, .ref b11, .ref b12, .ref b13, .ref b14, .int f1, .ref b15, .ref b16, .ref b17, .ref b18, .ref b19, .ref b20, .ref b21, .ref b22, .ref b23, .ref b24, .int (nI an), .int f2, .int f3, .int f4, .int f5])), (b8, .inl (kI, 300, .inl lf))] H := hP
      have hD : va_D A [(m0, .inr (6, [.int 0, .int (nI nA), .ref b1, .ref b2, .ref b3, .ref b4, .ref b5, .ref b6, .ref b7, .int (nI kn), .ref b8, .int (nI ln), .ref b9, .ref b10, .ref b11, .ref b12, .ref b13, .ref b14, .int f1, .ref b15, .ref b16, .ref b17, .ref b18, .ref b19, .ref b20, .ref b21, .ref b22, .ref b23, .ref b24, .int (nI an), .int f2, .int f3, .int f4, .int f5])), (b8, .inl (kI, 300, .inl lf))] := hD
      refine lv_aload_n hx hb dMod_log_21 rfl (lv_at hl 0 rfl) ?_
      refine va_get (D := (dC, dI)) (ci := 6) (v := .int 0) (C := RMod) (T := TMod) (N := 34) hx hb hts (fun w h => List.mem_cons_of_mem _ (layMod w h)) hown hK hP 0 rfl rfl 0 (by decide) (hts (.fieldLink RMod 83 "CallLedgerModel" "thrown" "I") (List.mem_cons_of_mem _ gw644)) (fun _ h9 => h9) rfl dMod_log_22 ?_
      refine lv_if_le (tgt := 32) hx hb dMod_log_25 (by decide) (fun c25 => ?_) (fun c25 => ?_)
      · refine lv_aload_n hx hb dMod_log_32 rfl (lv_at hl 0 rfl) ?_
        refine va_get (D := (dC, dI)) (ci := 6) (v := .ref b8) (C := RMod) (T := TMod) (N := 34) hx hb hts (fun w h => List.mem_cons_of_mem _ (layMod w h)) hown hK hP 0 rfl rfl 10 (by decide) (hts (.fieldLink RMod 32 "CallLedgerModel" "log" "[I") (List.mem_cons_of_mem _ gw654)) (fun _ h9 => h9) rfl dMod_log_33 ?_
        refine lv_iload_n hx hb dMod_log_36 rfl (lv_at hl 1 rfl) ?_
        refine x_iald (j := j) hx hb hK hP 1 0 rfl rfl rfl (by omega) (by omega) dMod_log_37 ?_
        exact hret (lf j) (()) _ _ _ (rfl) (hP.sub [0, 1] rfl) (hD.sub [0, 1] (by decide) rfl) hS dMod_log_38
      · exact absurd c25 (by decide)
    · have c10 : ¬ (j < ln) := fun z9 => c10 ((nI_ltI (a := j) (b := ln) (by omega) (by omega)).mpr z9)
      exfalso; omega

set_option maxHeartbeats 4000000 in
set_option maxRecDepth 100000 in
theorem kM_begin (l : Launch) (dC : Nat → ClassId) (dI : Nat → Nat → Nat) (kI kJ kZ : ClassId) (m0 : Nat) (b1 : Nat) (b2 : Nat) (b3 : Nat) (b4 : Nat) (b5 : Nat) (b6 : Nat) (b7 : Nat) (b8 : Nat) (b9 : Nat) (b10 : Nat) (b11 : Nat) (b12 : Nat) (b13 : Nat) (b14 : Nat) (b15 : Nat) (b16 : Nat) (b17 : Nat) (b18 : Nat) (b19 : Nat) (b20 : Nat) (b21 : Nat) (b22 : Nat) (b23 : Nat) (b24 : Nat) (nA : Nat) (kn : Nat) (ln : Nat) (an : Nat) (f0 : Int32) (f2 : Int32) (f3 : Int32) (f4 : Int32) (f5 : Int32) (D : Nat) (bal : Nat → Int32) (ka : Nat → Int32) (kN : Nat → Int32) (kv : Nat → Int32) (oB : Nat → Int32) (oA : Nat → Int32) (oN : Nat → Int32) (oV : Nat → Int32) (oK : Nat → Nat) (oL : Nat → Nat) (ht : Nat → Nat) (pp : Nat → Nat) (cr : Nat → Int32) (vv : Nat → Int32) (gg : Nat → Nat) (rc : Nat → Nat) (fr : Nat) (ac : Nat) (v : Int32) (g : Nat) (hD8 : D < 8) (hfr : fr < 24) (hac : ac < 24) (hkn : kn ≤ 500) :
    XM stX l yMod_begin wMod_begin { frames := 0, cells := 0, slots := 0, locals := 0 } (dC, dI) xCl (x_T kI kJ kZ) [(m0, .inr (6, [.int f0, .int (nI nA), .ref b1, .ref b2, .ref b3, .ref b4, .ref b5, .ref b6, .ref b7, .int (nI kn), .ref b8, .int (nI ln), .ref b9, .ref b10, .ref b11, .ref b12, .ref b13, .ref b14, .int (nI D), .ref b15, .ref b16, .ref b17, .ref b18, .ref b19, .ref b20, .ref b21, .ref b22, .ref b23, .ref b24, .int (nI an), .int f2, .int f3, .int f4, .int f5])), (b1, .inl (kI, 24, .inl bal)), (b5, .inl (kI, 500, .inl ka)), (b6, .inl (kI, 500, .inl kN)), (b7, .inl (kI, 500, .inl kv)), (b9, .inl (kI, 192, .inl oB)), (b10, .inl (kI, 4000, .inl oA)), (b11, .inl (kI, 4000, .inl oN)), (b12, .inl (kI, 4000, .inl oV)), (b13, .inl (kI, 8, .inl (fun j => nI (oK j)))), (b14, .inl (kI, 8, .inl (fun j => nI (oL j)))), (b16, .inl (kI, 8, .inl (fun j => nI (ht j)))), (b17, .inl (kI, 8, .inl (fun j => nI (pp j)))), (b20, .inl (kI, 8, .inl cr)), (b21, .inl (kI, 8, .inl vv)), (b22, .inl (kI, 8, .inl (fun j => nI (gg j)))), (b23, .inl (kI, 8, .inl (fun j => nI (rc j))))] [.ref m0, .int (nI fr), .int (nI ac), .int v, .int (nI g)] 0 0 x_eV (fun (r : Unit) (u : (Nat → Int32) × (Nat → Int32) × (Nat → Int32) × (Nat → Int32)) => (mSeg u.1 oB (24 * D) 24 bal) ∧ (mSeg u.2.1 oA (500 * D) kn ka) ∧ (mSeg u.2.2.1 oN (500 * D) kn kN) ∧ (mSeg u.2.2.2 oV (500 * D) kn kv)) (fun (u : (Nat → Int32) × (Nat → Int32) × (Nat → Int32) × (Nat → Int32)) => [(m0, .inr (6, [.int f0, .int (nI nA), .ref b1, .ref b2, .ref b3, .ref b4, .ref b5, .ref b6, .ref b7, .int (nI kn), .ref b8, .int (nI ln), .ref b9, .ref b10, .ref b11, .ref b12, .ref b13, .ref b14, .int (nI D), .ref b15, .ref b16, .ref b17, .ref b18, .ref b19, .ref b20, .ref b21, .ref b22, .ref b23, .ref b24, .int (nI an), .int f2, .int f3, .int f4, .int f5])), (b1, .inl (kI, 24, .inl (xMove bal fr ac v))), (b5, .inl (kI, 500, .inl ka)), (b6, .inl (kI, 500, .inl kN)), (b7, .inl (kI, 500, .inl kv)), (b9, .inl (kI, 192, .inl u.1)), (b10, .inl (kI, 4000, .inl u.2.1)), (b11, .inl (kI, 4000, .inl u.2.2.1)), (b12, .inl (kI, 4000, .inl u.2.2.2)), (b13, .inl (kI, 8, .inl (fun j => nI (va_up oK D kn j)))), (b14, .inl (kI, 8, .inl (fun j => nI (va_up oL D ln j)))), (b16, .inl (kI, 8, .inl (fun j => nI (va_up ht D 0 j)))), (b17, .inl (kI, 8, .inl (fun j => nI (va_up pp D 0 j)))), (b22, .inl (kI, 8, .inl (fun j => nI (va_up gg D g j)))), (b23, .inl (kI, 8, .inl (fun j => nI (va_up rc D ac j)))), (b20, .inl (kI, 8, .inl (upd cr D (nI fr)))), (b21, .inl (kI, 8, .inl (upd vv D v)))]) := by
  refine XM.ofV (cc := cMod_begin) (maxL := 6) (by decide) rfl (Nat.le_of_ble_eq_true rfl) ?_
  intro p e s m below meth c A Q hx hb hr hml hown hts hlocks hin hA hK hP hD hX hS ls hl hret
  have hl : lv_has ls 6 [(0, .ref m0), (1, .int (nI fr)), (2, .int (nI ac)), (3, .int v), (4, .int (nI g))] := hl
  refine lv_iconst (v := 0) hx hb dMod_begin_0 (by decide) ?_
  refine lv_istore (lv' := [(5, .int 0), (0, .ref m0), (1, .int (nI fr)), (2, .int (nI ac)), (3, .int v), (4, .int (nI g))]) hx hb dMod_begin_1 hl (by decide) rfl (fun ls hl => ?_)
  have loop3 : ∀ (N : Nat) (i : Nat) (oBx : Nat → Int32), ∀ (hN : 24 - i < N) (hi : i ≤ 24) (hsB : mSeg oBx oB (24 * D) i bal) (H : Heap) (locs : List Loc), va_P (dC, dI) xCl [(m0, .inr (6, [.int f0, .int (nI nA), .ref b1, .ref b2, .ref b3, .ref b4, .ref b5, .ref b6, .ref b7, .int (nI kn), .ref b8, .int (nI ln), .ref b9, .ref b10, .ref b11, .ref b12, .ref b13, .ref b14, .int (nI D), .ref b15, .ref b16, .ref b17, .ref b18, .ref b19, .ref b20, .ref b21, .ref b22, .ref b23, .ref b24, .int (nI an), .int f2, .int f3, .int f4, .int f5])), (b1, .inl (kI, 24, .inl bal)), (b5, .inl (kI, 500, .inl ka)), (b6, .inl (kI, 500, .inl kN)), (b7, .inl (kI, 500, .inl kv)), (b9, .inl (kI, 192, .inl oBx)), (b10, .inl (kI, 4000, .inl oA)), (b11, .inl (kI, 4000, .inl oN)), (b12, .inl (kI, 4000, .inl oV)), (b13, .inl (kI, 8, .inl (fun j => nI (oK j)))), (b14, .inl (kI, 8, .inl (fun j => nI (oL j)))), (b16, .inl (kI, 8, .inl (fun j => nI (ht j)))), (b17, .inl (kI, 8, .inl (fun j => nI (pp j)))), (b20, .inl (kI, 8, .inl cr)), (b21, .inl (kI, 8, .inl vv)), (b22, .inl (kI, 8, .inl (fun j => nI (gg j)))), (b23, .inl (kI, 8, .inl (fun j => nI (rc j))))] H → va_D A [(m0, .inr (6, [.int f0, .int (nI nA), .ref b1, .ref b2, .ref b3, .ref b4, .ref b5, .ref b6, .ref b7, .int (nI kn), .ref b8, .int (nI ln), .ref b9, .ref b10, .ref b11, .ref b12, .ref b13, .ref b14, .int (nI D), .ref b15, .ref b16, .ref b17, .ref b18, .ref b19, .ref b20, .ref b21, .ref b22, .ref b23, .ref b24, .int (nI an), .int f2, .int f3, .int f4, .int f5])), (b1, .inl (kI, 24, .inl bal)), (b5, .inl (kI, 500, .inl ka)), (b6, .inl (kI, 500, .inl kN)), (b7, .inl (kI, 500, .inl kv)), (b9, .inl (kI, 192, .inl oBx)), (b10, .inl (kI, 4000, .inl oA)), (b11, .inl (kI, 4000, .inl oN)), (b12, .inl (kI, 4000, .inl oV)), (b13, .inl (kI, 8, .inl (fun j => nI (oK j)))), (b14, .inl (kI, 8, .inl (fun j => nI (oL j)))), (b16, .inl (kI, 8, .inl (fun j => nI (ht j)))), (b17, .inl (kI, 8, .inl (fun j => nI (pp j)))), (b20, .inl (kI, 8, .inl cr)), (b21, .inl (kI, 8, .inl vv)), (b22, .inl (kI, 8, .inl (fun j => nI (gg j)))), (b23, .inl (kI, 8, .inl (fun j => nI (rc j))))] → va_S A s.heap H locs → ∀ ls, lv_has ls 6 [(0, .ref m0), (1, .int (nI fr)), (2, .int (nI ac)), (3, .int v), (4, .int (nI g)), (5, .int (nI i))] → W p l e { frames := 0, cells := 0, slots := 0, locals := 0 } s m [.ref m0, .int (nI fr), .int (nI ac), .int v, .int (nI g)].toArray below meth c H locs 0 0 Q (F0 m 3 ls []) := by
    intro N
    induction N with
    | zero => intro i oBx hN; exact absurd hN (Nat.not_lt_zero _)
    | succ N ih =>
      intro i oBx hN hi hsB H locs hP hD hS ls hl
      refine lv_iload hx hb dMod_begin_3 (lv_at hl 5 rfl) ?_
      refine lv_bipush (v := 24) hx hb dMod_begin_5 (by decide) ?_
      refine lv_icmp_ge (tgt := 38) hx hb dMod_begin_7 (by decide) (fun c7 => ?_) (fun c7 => ?_)
      · have c7 : 24 ≤ i := (nI_leI (a := 24) (b := i) (by omega) (by omega)).mp c7
        have hi24 : i = 24 := by omega
        subst hi24
        refine lv_iconst (v := 0) hx hb dMod_begin_38 (by decide) ?_
        refine lv_istore (lv' := [(5, .int 0), (0, .ref m0), (1, .int (nI fr)), (2, .int (nI ac)), (3, .int v), (4, .int (nI g))]) hx hb dMod_begin_39 hl (by decide) rfl (fun ls hl => ?_)
        have loop41 : ∀ (N : Nat) (i : Nat) (oAx : Nat → Int32) (oNx : Nat → Int32) (oVx : Nat → Int32), ∀ (hN : kn - i < N) (hi : i ≤ kn) (hsA : mSeg oAx oA (500 * D) i ka) (hsN : mSeg oNx oN (500 * D) i kN) (hsV : mSeg oVx oV (500 * D) i kv) (H : Heap) (locs : List Loc), va_P (dC, dI) xCl [(m0, .inr (6, [.int f0, .int (nI nA), .ref b1, .ref b2, .ref b3, .ref b4, .ref b5, .ref b6, .ref b7, .int (nI kn), .ref b8, .int (nI ln), .ref b9, .ref b10, .ref b11, .ref b12, .ref b13, .ref b14, .int (nI D), .ref b15, .ref b16, .ref b17, .ref b18, .ref b19, .ref b20, .ref b21, .ref b22, .ref b23, .ref b24, .int (nI an), .int f2, .int f3, .int f4, .int f5])), (b1, .inl (kI, 24, .inl bal)), (b5, .inl (kI, 500, .inl ka)), (b6, .inl (kI, 500, .inl kN)), (b7, .inl (kI, 500, .inl kv)), (b9, .inl (kI, 192, .inl oBx)), (b10, .inl (kI, 4000, .inl oAx)), (b11, .inl (kI, 4000, .inl oNx)), (b12, .inl (kI, 4000, .inl oVx)), (b13, .inl (kI, 8, .inl (fun j => nI (oK j)))), (b14, .inl (kI, 8, .inl (fun j => nI (oL j)))), (b16, .inl (kI, 8, .inl (fun j => nI (ht j)))), (b17, .inl (kI, 8, .inl (fun j => nI (pp j)))), (b20, .inl (kI, 8, .inl cr)), (b21, .inl (kI, 8, .inl vv)), (b22, .inl (kI, 8, .inl (fun j => nI (gg j)))), (b23, .inl (kI, 8, .inl (fun j => nI (rc j))))] H → va_D A [(m0, .inr (6, [.int f0, .int (nI nA), .ref b1, .ref b2, .ref b3, .ref b4, .ref b5, .ref b6, .ref b7, .int (nI kn), .ref b8, .int (nI ln), .ref b9, .ref b10, .ref b11, .ref b12, .ref b13, .ref b14, .int (nI D), .ref b15, .ref b16, .ref b17, .ref b18, .ref b19, .ref b20, .ref b21, .ref b22, .ref b23, .ref b24, .int (nI an), .int f2, .int f3, .int f4, .int f5])), (b1, .inl (kI, 24, .inl bal)), (b5, .inl (kI, 500, .inl ka)), (b6, .inl (kI, 500, .inl kN)), (b7, .inl (kI, 500, .inl kv)), (b9, .inl (kI, 192, .inl oBx)), (b10, .inl (kI, 4000, .inl oAx)), (b11, .inl (kI, 4000, .inl oNx)), (b12, .inl (kI, 4000, .inl oVx)), (b13, .inl (kI, 8, .inl (fun j => nI (oK j)))), (b14, .inl (kI, 8, .inl (fun j => nI (oL j)))), (b16, .inl (kI, 8, .inl (fun j => nI (ht j)))), (b17, .inl (kI, 8, .inl (fun j => nI (pp j)))), (b20, .inl (kI, 8, .inl cr)), (b21, .inl (kI, 8, .inl vv)), (b22, .inl (kI, 8, .inl (fun j => nI (gg j)))), (b23, .inl (kI, 8, .inl (fun j => nI (rc j))))] → va_S A s.heap H locs → ∀ ls, lv_has ls 6 [(0, .ref m0), (1, .int (nI fr)), (2, .int (nI ac)), (3, .int v), (4, .int (nI g)), (5, .int (nI i))] → W p l e { frames := 0, cells := 0, slots := 0, locals := 0 } s m [.ref m0, .int (nI fr), .int (nI ac), .int v, .int (nI g)].toArray below meth c H locs 0 0 Q (F0 m 41 ls []) := by
          intro N
          induction N with
          | zero => intro i oAx oNx oVx hN; exact absurd hN (Nat.not_lt_zero _)
          | succ N ih =>
            intro i oAx oNx oVx hN hi hsA hsN hsV H locs hP hD hS ls hl
            refine lv_iload hx hb dMod_begin_41 (lv_at hl 5 rfl) ?_
            refine lv_aload_n hx hb dMod_begin_43 rfl (lv_at hl 0 rfl) ?_
            refine va_get (D := (dC, dI)) (ci := 6) (v := .int (nI kn)) (C := RMod) (T := TMod) (N := 34) hx hb hts (fun w h => List.mem_cons_of_mem _ (layMod w h)) hown hK hP 0 rfl rfl 9 (by decide) (hts (.fieldLink RMod 107 "CallLedgerModel" "keys" "I") (List.mem_cons_of_mem _ gw653)) (fun _ h9 => h9) rfl dMod_begin_44 ?_
            refine lv_icmp_ge (tgt := 125) hx hb dMod_begin_47 (by decide) (fun c47 => ?_) (fun c47 => ?_)
            · have c47 : kn ≤ i := (nI_leI (a := kn) (b := i) (by omega) (by omega)).mp c47
              have hik : kn = i := by omega
              subst hik
              refine lv_aload_n hx hb dMod_begin_125 rfl (lv_at hl 0 rfl) ?_
              refine va_get (D := (dC, dI)) (ci := 6) (v := .ref b13) (C := RMod) (T := TMod) (N := 34) hx hb hts (fun w h => List.mem_cons_of_mem _ (layMod w h)) hown hK hP 0 rfl rfl 16 (by decide) (hts (.fieldLink RMod 47 "CallLedgerModel" "oldKeys" "[I") (List.mem_cons_of_mem _ gw660)) (fun _ h9 => h9) rfl dMod_begin_126 ?_
              refine lv_aload_n hx hb dMod_begin_129 rfl (lv_at hl 0 rfl) ?_
              refine va_get (D := (dC, dI)) (ci := 6) (v := .int (nI D)) (C := RMod) (T := TMod) (N := 34) hx hb hts (fun w h => List.mem_cons_of_mem _ (layMod w h)) hown hK hP 0 rfl rfl 18 (by decide) (hts (.fieldLink RMod 126 "CallLedgerModel" "depth" "I") (List.mem_cons_of_mem _ gw662)) (fun _ h9 => h9) rfl dMod_begin_130 ?_
              refine lv_aload_n hx hb dMod_begin_133 rfl (lv_at hl 0 rfl) ?_
              refine va_get (D := (dC, dI)) (ci := 6) (v := .int (nI kn)) (C := RMod) (T := TMod) (N := 34) hx hb hts (fun w h => List.mem_cons_of_mem _ (layMod w h)) hown hK hP 0 rfl rfl 9 (by decide) (hts (.fieldLink RMod 107 "CallLedgerModel" "keys" "I") (List.mem_cons_of_mem _ gw653)) (fun _ h9 => h9) rfl dMod_begin_134 ?_
              refine x_iast (j := D) hx hb hK hP hD hS 9 0 rfl rfl rfl (by omega) (by omega) dMod_begin_137 (fun H locs hP hD hS => ?_)
              have hP : va_P (dC, dI) xCl [(m0, .inr (6, [.int f0, .int (nI nA), .ref b1, .ref b2, .ref b3, .ref b4, .ref b5, .ref b6, .ref b7, .int (nI kn), .ref b8, .int (nI ln), .ref b9, .ref b10, .ref b11, .ref b12, .ref b13, .ref b14, .int (nI D), .ref b15, .ref b16, .ref b17, .ref b18, .ref b19, .ref b20, .ref b21, .ref b22, .ref b23, .ref b24, .int (nI an), .int f2, .int f3, .int f4, .int f5])), (b1, .inl (kI, 24, .inl bal)), (b5, .inl (kI, 500, .inl ka)), (b6, .inl (kI, 500, .inl kN)), (b7, .inl (kI, 500, .inl kv)), (b9, .inl (kI, 192, .inl oBx)), (b10, .inl (kI, 4000, .inl oAx)), (b11, .inl (kI, 4000, .inl oNx)), (b12, .inl (kI, 4000, .inl oVx)), (b13, .inl (kI, 8, .inl (upd (fun j => nI (oK j)) D (nI kn)))), (b14, .inl (kI, 8, .inl (fun j => nI (oL j)))), (b16, .inl (kI, 8, .inl (fun j => nI (ht j)))), (b17, .inl (kI, 8, .inl (fun j => nI (pp j)))), (b20, .inl (kI, 8, .inl cr)), (b21, .inl (kI, 8, .inl vv)), (b22, .inl (kI, 8, .inl (fun j => nI (gg j)))), (b23, .inl (kI, 8, .inl (fun j => nI (rc j))))] H := hP
              have hD : va_D A [(m0, .inr (6, [.int f0, .int (nI nA), .ref b1, .ref b2, .ref b3, .ref b4, .ref b5, .ref b6, .ref b7, .int (nI kn), .ref b8, .int (nI ln), .ref b9, .ref b10, .ref b11, .ref b12, .ref b13, .ref b14, .int (nI D), .ref b15, .ref b16, .ref b17, .ref b18, .ref b19, .ref b20, .ref b21, .ref b22, .ref b23, .ref b24, .int (nI an), .int f2, .int f3, .int f4, .int f5])), (b1, .inl (kI, 24, .inl bal)), (b5, .inl (kI, 500, .inl ka)), (b6, .inl (kI, 500, .inl kN)), (b7, .inl (kI, 500, .inl kv)), (b9, .inl (kI, 192, .inl oBx)), (b10, .inl (kI, 4000, .inl oAx)), (b11, .inl (kI, 4000, .inl oNx)), (b12, .inl (kI, 4000, .inl oVx)), (b13, .inl (kI, 8, .inl (upd (fun j => nI (oK j)) D (nI kn)))), (b14, .inl (kI, 8, .inl (fun j => nI (oL j)))), (b16, .inl (kI, 8, .inl (fun j => nI (ht j)))), (b17, .inl (kI, 8, .inl (fun j => nI (pp j)))), (b20, .inl (kI, 8, .inl cr)), (b21, .inl (kI, 8, .inl vv)), (b22, .inl (kI, 8, .inl (fun j => nI (gg j)))), (b23, .inl (kI, 8, .inl (fun j => nI (rc j))))] := hD
              rw [(show upd (fun j => nI (oK j)) D (nI kn) = fun j => nI (va_up oK D kn j) from x_updL oK D kn)] at hP hD
              have hP : va_P (dC, dI) xCl [(m0, .inr (6, [.int f0, .int (nI nA), .ref b1, .ref b2, .ref b3, .ref b4, .ref b5, .ref b6, .ref b7, .int (nI kn), .ref b8, .int (nI ln), .ref b9, .ref b10, .ref b11, .ref b12, .ref b13, .ref b14, .int (nI D), .ref b15, .ref b16, .ref b17, .ref b18, .ref b19, .ref b20, .ref b21, .ref b22, .ref b23, .ref b24, .int (nI an), .int f2, .int f3, .int f4, .int f5])), (b1, .inl (kI, 24, .inl bal)), (b5, .inl (kI, 500, .inl ka)), (b6, .inl (kI, 500, .inl kN)), (b7, .inl (kI, 500, .inl kv)), (b9, .inl (kI, 192, .inl oBx)), (b10, .inl (kI, 4000, .inl oAx)), (b11, .inl (kI, 4000, .inl oNx)), (b12, .inl (kI, 4000, .inl oVx)), (b13, .inl (kI, 8, .inl (fun j => nI (va_up oK D kn j)))), (b14, .inl (kI, 8, .inl (fun j => nI (oL j)))), (b16, .inl (kI, 8, .inl (fun j => nI (ht j)))), (b17, .inl (kI, 8, .inl (fun j => nI (pp j)))), (b20, .inl (kI, 8, .inl cr)), (b21, .inl (kI, 8, .inl vv)), (b22, .inl (kI, 8, .inl (fun j => nI (gg j)))), (b23, .inl (kI, 8, .inl (fun j => nI (rc j))))] H := hP
              have hD : va_D A [(m0, .inr (6, [.int f0, .int (nI nA), .ref b1, .ref b2, .ref b3, .ref b4, .ref b5, .ref b6, .ref b7, .int (nI kn), .ref b8, .int (nI ln), .ref b9, .ref b10, .ref b11, .ref b12, .ref b13, .ref b14, .int (nI D), .ref b15, .ref b16, .ref b17, .ref b18, .ref b19, .ref b20, .ref b21, .ref b22, .ref b23, .ref b24, .int (nI an), .int f2, .int f3, .int f4, .int f5])), (b1, .inl (kI, 24, .inl bal)), (b5, .inl (kI, 500, .inl ka)), (b6, .inl (kI, 500, .inl kN)), (b7, .inl (kI, 500, .inl kv)), (b9, .inl (kI, 192, .inl oBx)), (b10, .inl (kI, 4000, .inl oAx)), (b11, .inl (kI, 4000, .inl oNx)), (b12, .inl (kI, 4000, .inl oVx)), (b13, .inl (kI, 8, .inl (fun j => nI (va_up oK D kn j)))), (b14, .inl (kI, 8, .inl (fun j => nI (oL j)))), (b16, .inl (kI, 8, .inl (fun j => nI (ht j)))), (b17, .inl (kI, 8, .inl (fun j => nI (pp j)))), (b20, .inl (kI, 8, .inl cr)), (b21, .inl (kI, 8, .inl vv)), (b22, .inl (kI, 8, .inl (fun j => nI (gg j)))), (b23, .inl (kI, 8, .inl (fun j => nI (rc j))))] := hD
              refine lv_aload_n hx hb dMod_begin_138 rfl (lv_at hl 0 rfl) ?_
              refine va_get (D := (dC, dI)) (ci := 6) (v := .ref b14) (C := RMod) (T := TMod) (N := 34) hx hb hts (fun w h => List.mem_cons_of_mem _ (layMod w h)) hown hK hP 0 rfl rfl 17 (by decide) (hts (.fieldLink RMod 50 "CallLedgerModel" "oldLogged" "[I") (List.mem_cons_of_mem _ gw661)) (fun _ h9 => h9) rfl dMod_begin_139 ?_
              refine lv_aload_n hx hb dMod_begin_142 rfl (lv_at hl 0 rfl) ?_
              refine va_get (D := (dC, dI)) (ci := 6) (v := .int (nI D)) (C := RMod) (T := TMod) (N := 34) hx hb hts (fun w h => List.mem_cons_of_mem _ (layMod w h)) hown hK hP 0 rfl rfl 18 (by decide) (hts (.fieldLink RMod 126 "CallLedgerModel" "depth" "I") (List.mem_cons_of_mem _ gw662)) (fun _ h9 => h9) rfl dMod_begin_143 ?_
              refine lv_aload_n hx hb dMod_begin_146 rfl (lv_at hl 0 rfl) ?_
              refine va_get (D := (dC, dI)) (ci := 6) (v := .int (nI ln)) (C := RMod) (T := TMod) (N := 34) hx hb hts (fun w h => List.mem_cons_of_mem _ (layMod w h)) hown hK hP 0 rfl rfl 11 (by decide) (hts (.fieldLink RMod 117 "CallLedgerModel" "logged" "I") (List.mem_cons_of_mem _ gw655)) (fun _ h9 => h9) rfl dMod_begin_147 ?_
              refine x_iast (j := D) hx hb hK hP hD hS 10 0 rfl rfl rfl (by omega) (by omega) dMod_begin_150 (fun H locs hP hD hS => ?_)
              have hP : va_P (dC, dI) xCl [(m0, .inr (6, [.int f0, .int (nI nA), .ref b1, .ref b2, .ref b3, .ref b4, .ref b5, .ref b6, .ref b7, .int (nI kn), .ref b8, .int (nI ln), .ref b9, .ref b10, .ref b11, .ref b12, .ref b13, .ref b14, .int (nI D), .ref b15, .ref b16, .ref b17, .ref b18, .ref b19, .ref b20, .ref b21, .ref b22, .ref b23, .ref b24, .int (nI an), .int f2, .int f3, .int f4, .int f5])), (b1, .inl (kI, 24, .inl bal)), (b5, .inl (kI, 500, .inl ka)), (b6, .inl (kI, 500, .inl kN)), (b7, .inl (kI, 500, .inl kv)), (b9, .inl (kI, 192, .inl oBx)), (b10, .inl (kI, 4000, .inl oAx)), (b11, .inl (kI, 4000, .inl oNx)), (b12, .inl (kI, 4000, .inl oVx)), (b13, .inl (kI, 8, .inl (fun j => nI (va_up oK D kn j)))), (b14, .inl (kI, 8, .inl (upd (fun j => nI (oL j)) D (nI ln)))), (b16, .inl (kI, 8, .inl (fun j => nI (ht j)))), (b17, .inl (kI, 8, .inl (fun j => nI (pp j)))), (b20, .inl (kI, 8, .inl cr)), (b21, .inl (kI, 8, .inl vv)), (b22, .inl (kI, 8, .inl (fun j => nI (gg j)))), (b23, .inl (kI, 8, .inl (fun j => nI (rc j))))] H := hP
              have hD : va_D A [(m0, .inr (6, [.int f0, .int (nI nA), .ref b1, .ref b2, .ref b3, .ref b4, .ref b5, .ref b6, .ref b7, .int (nI kn), .ref b8, .int (nI ln), .ref b9, .ref b10, .ref b11, .ref b12, .ref b13, .ref b14, .int (nI D), .ref b15, .ref b16, .ref b17, .ref b18, .ref b19, .ref b20, .ref b21, .ref b22, .ref b23, .ref b24, .int (nI an), .int f2, .int f3, .int f4, .int f5])), (b1, .inl (kI, 24, .inl bal)), (b5, .inl (kI, 500, .inl ka)), (b6, .inl (kI, 500, .inl kN)), (b7, .inl (kI, 500, .inl kv)), (b9, .inl (kI, 192, .inl oBx)), (b10, .inl (kI, 4000, .inl oAx)), (b11, .inl (kI, 4000, .inl oNx)), (b12, .inl (kI, 4000, .inl oVx)), (b13, .inl (kI, 8, .inl (fun j => nI (va_up oK D kn j)))), (b14, .inl (kI, 8, .inl (upd (fun j => nI (oL j)) D (nI ln)))), (b16, .inl (kI, 8, .inl (fun j => nI (ht j)))), (b17, .inl (kI, 8, .inl (fun j => nI (pp j)))), (b20, .inl (kI, 8, .inl cr)), (b21, .inl (kI, 8, .inl vv)), (b22, .inl (kI, 8, .inl (fun j => nI (gg j)))), (b23, .inl (kI, 8, .inl (fun j => nI (rc j))))] := hD
              rw [(show upd (fun j => nI (oL j)) D (nI ln) = fun j => nI (va_up oL D ln j) from x_updL oL D ln)] at hP hD
              have hP : va_P (dC, dI) xCl [(m0, .inr (6, [.int f0, .int (nI nA), .ref b1, .ref b2, .ref b3, .ref b4, .ref b5, .ref b6, .ref b7, .int (nI kn), .ref b8, .int (nI ln), .ref b9, .ref b10, .ref b11, .ref b12, .ref b13, .ref b14, .int (nI D), .ref b15, .ref b16, .ref b17, .ref b18, .ref b19, .ref b20, .ref b21, .ref b22, .ref b23, .ref b24, .int (nI an), .int f2, .int f3, .int f4, .int f5])), (b1, .inl (kI, 24, .inl bal)), (b5, .inl (kI, 500, .inl ka)), (b6, .inl (kI, 500, .inl kN)), (b7, .inl (kI, 500, .inl kv)), (b9, .inl (kI, 192, .inl oBx)), (b10, .inl (kI, 4000, .inl oAx)), (b11, .inl (kI, 4000, .inl oNx)), (b12, .inl (kI, 4000, .inl oVx)), (b13, .inl (kI, 8, .inl (fun j => nI (va_up oK D kn j)))), (b14, .inl (kI, 8, .inl (fun j => nI (va_up oL D ln j)))), (b16, .inl (kI, 8, .inl (fun j => nI (ht j)))), (b17, .inl (kI, 8, .inl (fun j => nI (pp j)))), (b20, .inl (kI, 8, .inl cr)), (b21, .inl (kI, 8, .inl vv)), (b22, .inl (kI, 8, .inl (fun j => nI (gg j)))), (b23, .inl (kI, 8, .inl (fun j => nI (rc j))))] H := hP
              have hD : va_D A [(m0, .inr (6, [.int f0, .int (nI nA), .ref b1, .ref b2, .ref b3, .ref b4, .ref b5, .ref b6, .ref b7, .int (nI kn), .ref b8, .int (nI ln), .ref b9, .ref b10, .ref b11, .ref b12, .ref b13, .ref b14, .int (nI D), .ref b15, .ref b16, .ref b17, .ref b18, .ref b19, .ref b20, .ref b21, .ref b22, .ref b23, .ref b24, .int (nI an), .int f2, .int f3, .int f4, .int f5])), (b1, .inl (kI, 24, .inl bal)), (b5, .inl (kI, 500, .inl ka)), (b6, .inl (kI, 500, .inl kN)), (b7, .inl (kI, 500, .inl kv)), (b9, .inl (kI, 192, .inl oBx)), (b10, .inl (kI, 4000, .inl oAx)), (b11, .inl (kI, 4000, .inl oNx)), (b12, .inl (kI, 4000, .inl oVx)), (b13, .inl (kI, 8, .inl (fun j => nI (va_up oK D kn j)))), (b14, .inl (kI, 8, .inl (fun j => nI (va_up oL D ln j)))), (b16, .inl (kI, 8, .inl (fun j => nI (ht j)))), (b17, .inl (kI, 8, .inl (fun j => nI (pp j)))), (b20, .inl (kI, 8, .inl cr)), (b21, .inl (kI, 8, .inl vv)), (b22, .inl (kI, 8, .inl (fun j => nI (gg j)))), (b23, .inl (kI, 8, .inl (fun j => nI (rc j))))] := hD
              refine lv_aload_n hx hb dMod_begin_151 rfl (lv_at hl 0 rfl) ?_
              refine va_get (D := (dC, dI)) (ci := 6) (v := .ref b1) (C := RMod) (T := TMod) (N := 34) hx hb hts (fun w h => List.mem_cons_of_mem _ (layMod w h)) hown hK hP 0 rfl rfl 2 (by decide) (hts (.fieldLink RMod 7 "CallLedgerModel" "balances" "[I") (List.mem_cons_of_mem _ gw646)) (fun _ h9 => h9) rfl dMod_begin_152 ?_
              refine lv_iload_n hx hb dMod_begin_155 rfl (lv_at hl 1 rfl) ?_
              refine lv_aload_n hx hb dMod_begin_156 rfl (lv_at hl 0 rfl) ?_
              refine va_get (D := (dC, dI)) (ci := 6) (v := .ref b1) (C := RMod) (T := TMod) (N := 34) hx hb hts (fun w h => List.mem_cons_of_mem _ (layMod w h)) hown hK hP 0 rfl rfl 2 (by decide) (hts (.fieldLink RMod 7 "CallLedgerModel" "balances" "[I") (List.mem_cons_of_mem _ gw646)) (fun _ h9 => h9) rfl dMod_begin_157 ?_
              refine lv_iload_n hx hb dMod_begin_160 rfl (lv_at hl 1 rfl) ?_
              refine x_iald (j := fr) hx hb hK hP 1 0 rfl rfl rfl (by omega) (by omega) dMod_begin_161 ?_
              refine lv_iload_n hx hb dMod_begin_162 rfl (lv_at hl 3 rfl) ?_
              refine lv_isub hx hb dMod_begin_163 ?_
              refine x_iast (j := fr) hx hb hK hP hD hS 1 0 rfl rfl rfl (by omega) (by omega) dMod_begin_164 (fun H locs hP hD hS => ?_)
              have hP : va_P (dC, dI) xCl [(m0, .inr (6, [.int f0, .int (nI nA), .ref b1, .ref b2, .ref b3, .ref b4, .ref b5, .ref b6, .ref b7, .int (nI kn), .ref b8, .int (nI ln), .ref b9, .ref b10, .ref b11, .ref b12, .ref b13, .ref b14, .int (nI D), .ref b15, .ref b16, .ref b17, .ref b18, .ref b19, .ref b20, .ref b21, .ref b22, .ref b23, .ref b24, .int (nI an), .int f2, .int f3, .int f4, .int f5])), (b1, .inl (kI, 24, .inl (upd bal fr ((bal fr) - v)))), (b5, .inl (kI, 500, .inl ka)), (b6, .inl (kI, 500, .inl kN)), (b7, .inl (kI, 500, .inl kv)), (b9, .inl (kI, 192, .inl oBx)), (b10, .inl (kI, 4000, .inl oAx)), (b11, .inl (kI, 4000, .inl oNx)), (b12, .inl (kI, 4000, .inl oVx)), (b13, .inl (kI, 8, .inl (fun j => nI (va_up oK D kn j)))), (b14, .inl (kI, 8, .inl (fun j => nI (va_up oL D ln j)))), (b16, .inl (kI, 8, .inl (fun j => nI (ht j)))), (b17, .inl (kI, 8, .inl (fun j => nI (pp j)))), (b20, .inl (kI, 8, .inl cr)), (b21, .inl (kI, 8, .inl vv)), (b22, .inl (kI, 8, .inl (fun j => nI (gg j)))), (b23, .inl (kI, 8, .inl (fun j => nI (rc j))))] H := hP
              have hD : va_D A [(m0, .inr (6, [.int f0, .int (nI nA), .ref b1, .ref b2, .ref b3, .ref b4, .ref b5, .ref b6, .ref b7, .int (nI kn), .ref b8, .int (nI ln), .ref b9, .ref b10, .ref b11, .ref b12, .ref b13, .ref b14, .int (nI D), .ref b15, .ref b16, .ref b17, .ref b18, .ref b19, .ref b20, .ref b21, .ref b22, .ref b23, .ref b24, .int (nI an), .int f2, .int f3, .int f4, .int f5])), (b1, .inl (kI, 24, .inl (upd bal fr ((bal fr) - v)))), (b5, .inl (kI, 500, .inl ka)), (b6, .inl (kI, 500, .inl kN)), (b7, .inl (kI, 500, .inl kv)), (b9, .inl (kI, 192, .inl oBx)), (b10, .inl (kI, 4000, .inl oAx)), (b11, .inl (kI, 4000, .inl oNx)), (b12, .inl (kI, 4000, .inl oVx)), (b13, .inl (kI, 8, .inl (fun j => nI (va_up oK D kn j)))), (b14, .inl (kI, 8, .inl (fun j => nI (va_up oL D ln j)))), (b16, .inl (kI, 8, .inl (fun j => nI (ht j)))), (b17, .inl (kI, 8, .inl (fun j => nI (pp j)))), (b20, .inl (kI, 8, .inl cr)), (b21, .inl (kI, 8, .inl vv)), (b22, .inl (kI, 8, .inl (fun j => nI (gg j)))), (b23, .inl (kI, 8, .inl (fun j => nI (rc j))))] := hD
              refine lv_aload_n hx hb dMod_begin_165 rfl (lv_at hl 0 rfl) ?_
              refine va_get (D := (dC, dI)) (ci := 6) (v := .ref b1) (C := RMod) (T := TMod) (N := 34) hx hb hts (fun w h => List.mem_cons_of_mem _ (layMod w h)) hown hK hP 0 rfl rfl 2 (by decide) (hts (.fieldLink RMod 7 "CallLedgerModel" "balances" "[I") (List.mem_cons_of_mem _ gw646)) (fun _ h9 => h9) rfl dMod_begin_166 ?_
              refine lv_iload_n hx hb dMod_begin_169 rfl (lv_at hl 2 rfl) ?_
              refine lv_aload_n hx hb dMod_begin_170 rfl (lv_at hl 0 rfl) ?_
              refine va_get (D := (dC, dI)) (ci := 6) (v := .ref b1) (C := RMod) (T := TMod) (N := 34) hx hb hts (fun w h => List.mem_cons_of_mem _ (layMod w h)) hown hK hP 0 rfl rfl 2 (by decide) (hts (.fieldLink RMod 7 "CallLedgerModel" "balances" "[I") (List.mem_cons_of_mem _ gw646)) (fun _ h9 => h9) rfl dMod_begin_171 ?_
              refine lv_iload_n hx hb dMod_begin_174 rfl (lv_at hl 2 rfl) ?_
              refine x_iald (j := ac) hx hb hK hP 1 0 rfl rfl rfl (by omega) (by omega) dMod_begin_175 ?_
              refine lv_iload_n hx hb dMod_begin_176 rfl (lv_at hl 3 rfl) ?_
              refine lv_iadd hx hb dMod_begin_177 ?_
              refine x_iast (j := ac) hx hb hK hP hD hS 1 0 rfl rfl rfl (by omega) (by omega) dMod_begin_178 (fun H locs hP hD hS => ?_)
              have hP : va_P (dC, dI) xCl [(m0, .inr (6, [.int f0, .int (nI nA), .ref b1, .ref b2, .ref b3, .ref b4, .ref b5, .ref b6, .ref b7, .int (nI kn), .ref b8, .int (nI ln), .ref b9, .ref b10, .ref b11, .ref b12, .ref b13, .ref b14, .int (nI D), .ref b15, .ref b16, .ref b17, .ref b18, .ref b19, .ref b20, .ref b21, .ref b22, .ref b23, .ref b24, .int (nI an), .int f2, .int f3, .int f4, .int f5])), (b1, .inl (kI, 24, .inl (upd (upd bal fr ((bal fr) - v)) ac (((upd bal fr ((bal fr) - v)) ac) + v)))), (b5, .inl (kI, 500, .inl ka)), (b6, .inl (kI, 500, .inl kN)), (b7, .inl (kI, 500, .inl kv)), (b9, .inl (kI, 192, .inl oBx)), (b10, .inl (kI, 4000, .inl oAx)), (b11, .inl (kI, 4000, .inl oNx)), (b12, .inl (kI, 4000, .inl oVx)), (b13, .inl (kI, 8, .inl (fun j => nI (va_up oK D kn j)))), (b14, .inl (kI, 8, .inl (fun j => nI (va_up oL D ln j)))), (b16, .inl (kI, 8, .inl (fun j => nI (ht j)))), (b17, .inl (kI, 8, .inl (fun j => nI (pp j)))), (b20, .inl (kI, 8, .inl cr)), (b21, .inl (kI, 8, .inl vv)), (b22, .inl (kI, 8, .inl (fun j => nI (gg j)))), (b23, .inl (kI, 8, .inl (fun j => nI (rc j))))] H := hP
              have hD : va_D A [(m0, .inr (6, [.int f0, .int (nI nA), .ref b1, .ref b2, .ref b3, .ref b4, .ref b5, .ref b6, .ref b7, .int (nI kn), .ref b8, .int (nI ln), .ref b9, .ref b10, .ref b11, .ref b12, .ref b13, .ref b14, .int (nI D), .ref b15, .ref b16, .ref b17, .ref b18, .ref b19, .ref b20, .ref b21, .ref b22, .ref b23, .ref b24, .int (nI an), .int f2, .int f3, .int f4, .int f5])), (b1, .inl (kI, 24, .inl (upd (upd bal fr ((bal fr) - v)) ac (((upd bal fr ((bal fr) - v)) ac) + v)))), (b5, .inl (kI, 500, .inl ka)), (b6, .inl (kI, 500, .inl kN)), (b7, .inl (kI, 500, .inl kv)), (b9, .inl (kI, 192, .inl oBx)), (b10, .inl (kI, 4000, .inl oAx)), (b11, .inl (kI, 4000, .inl oNx)), (b12, .inl (kI, 4000, .inl oVx)), (b13, .inl (kI, 8, .inl (fun j => nI (va_up oK D kn j)))), (b14, .inl (kI, 8, .inl (fun j => nI (va_up oL D ln j)))), (b16, .inl (kI, 8, .inl (fun j => nI (ht j)))), (b17, .inl (kI, 8, .inl (fun j => nI (pp j)))), (b20, .inl (kI, 8, .inl cr)), (b21, .inl (kI, 8, .inl vv)), (b22, .inl (kI, 8, .inl (fun j => nI (gg j)))), (b23, .inl (kI, 8, .inl (fun j => nI (rc j))))] := hD
              refine lv_aload_n hx hb dMod_begin_179 rfl (lv_at hl 0 rfl) ?_
              refine va_get (D := (dC, dI)) (ci := 6) (v := .ref b16) (C := RMod) (T := TMod) (N := 34) hx hb hts (fun w h => List.mem_cons_of_mem _ (layMod w h)) hown hK hP 0 rfl rfl 20 (by decide) (hts (.fieldLink RMod 56 "CallLedgerModel" "heights" "[I") (List.mem_cons_of_mem _ gw664)) (fun _ h9 => h9) rfl dMod_begin_180 ?_
              refine lv_aload_n hx hb dMod_begin_183 rfl (lv_at hl 0 rfl) ?_
              refine va_get (D := (dC, dI)) (ci := 6) (v := .int (nI D)) (C := RMod) (T := TMod) (N := 34) hx hb hts (fun w h => List.mem_cons_of_mem _ (layMod w h)) hown hK hP 0 rfl rfl 18 (by decide) (hts (.fieldLink RMod 126 "CallLedgerModel" "depth" "I") (List.mem_cons_of_mem _ gw662)) (fun _ h9 => h9) rfl dMod_begin_184 ?_
              refine lv_iconst (v := 0) hx hb dMod_begin_187 (by decide) ?_
              refine x_iast (j := D) hx hb hK hP hD hS 11 0 rfl rfl rfl (by omega) (by omega) dMod_begin_188 (fun H locs hP hD hS => ?_)
              have hP : va_P (dC, dI) xCl [(m0, .inr (6, [.int f0, .int (nI nA), .ref b1, .ref b2, .ref b3, .ref b4, .ref b5, .ref b6, .ref b7, .int (nI kn), .ref b8, .int (nI ln), .ref b9, .ref b10, .ref b11, .ref b12, .ref b13, .ref b14, .int (nI D), .ref b15, .ref b16, .ref b17, .ref b18, .ref b19, .ref b20, .ref b21, .ref b22, .ref b23, .ref b24, .int (nI an), .int f2, .int f3, .int f4, .int f5])), (b1, .inl (kI, 24, .inl (upd (upd bal fr ((bal fr) - v)) ac (((upd bal fr ((bal fr) - v)) ac) + v)))), (b5, .inl (kI, 500, .inl ka)), (b6, .inl (kI, 500, .inl kN)), (b7, .inl (kI, 500, .inl kv)), (b9, .inl (kI, 192, .inl oBx)), (b10, .inl (kI, 4000, .inl oAx)), (b11, .inl (kI, 4000, .inl oNx)), (b12, .inl (kI, 4000, .inl oVx)), (b13, .inl (kI, 8, .inl (fun j => nI (va_up oK D kn j)))), (b14, .inl (kI, 8, .inl (fun j => nI (va_up oL D ln j)))), (b16, .inl (kI, 8, .inl (upd (fun j => nI (ht j)) D 0))), (b17, .inl (kI, 8, .inl (fun j => nI (pp j)))), (b20, .inl (kI, 8, .inl cr)), (b21, .inl (kI, 8, .inl vv)), (b22, .inl (kI, 8, .inl (fun j => nI (gg j)))), (b23, .inl (kI, 8, .inl (fun j => nI (rc j))))] H := hP
              have hD : va_D A [(m0, .inr (6, [.int f0, .int (nI nA), .ref b1, .ref b2, .ref b3, .ref b4, .ref b5, .ref b6, .ref b7, .int (nI kn), .ref b8, .int (nI ln), .ref b9, .ref b10, .ref b11, .ref b12, .ref b13, .ref b14, .int (nI D), .ref b15, .ref b16, .ref b17, .ref b18, .ref b19, .ref b20, .ref b21, .ref b22, .ref b23, .ref b24, .int (nI an), .int f2, .int f3, .int f4, .int f5])), (b1, .inl (kI, 24, .inl (upd (upd bal fr ((bal fr) - v)) ac (((upd bal fr ((bal fr) - v)) ac) + v)))), (b5, .inl (kI, 500, .inl ka)), (b6, .inl (kI, 500, .inl kN)), (b7, .inl (kI, 500, .inl kv)), (b9, .inl (kI, 192, .inl oBx)), (b10, .inl (kI, 4000, .inl oAx)), (b11, .inl (kI, 4000, .inl oNx)), (b12, .inl (kI, 4000, .inl oVx)), (b13, .inl (kI, 8, .inl (fun j => nI (va_up oK D kn j)))), (b14, .inl (kI, 8, .inl (fun j => nI (va_up oL D ln j)))), (b16, .inl (kI, 8, .inl (upd (fun j => nI (ht j)) D 0))), (b17, .inl (kI, 8, .inl (fun j => nI (pp j)))), (b20, .inl (kI, 8, .inl cr)), (b21, .inl (kI, 8, .inl vv)), (b22, .inl (kI, 8, .inl (fun j => nI (gg j)))), (b23, .inl (kI, 8, .inl (fun j => nI (rc j))))] := hD
              rw [(show upd (fun j => nI (ht j)) D 0 = fun j => nI (va_up ht D 0 j) from x_updL ht D 0)] at hP hD
              have hP : va_P (dC, dI) xCl [(m0, .inr (6, [.int f0, .int (nI nA), .ref b1, .ref b2, .ref b3, .ref b4, .ref b5, .ref b6, .ref b7, .int (nI kn), .ref b8, .int (nI ln), .ref b9, .ref b10, .ref b11, .ref b12, .ref b13, .ref b14, .int (nI D), .ref b15, .ref b16, .ref b17, .ref b18, .ref b19, .ref b20, .ref b21, .ref b22, .ref b23, .ref b24, .int (nI an), .int f2, .int f3, .int f4, .int f5])), (b1, .inl (kI, 24, .inl (upd (upd bal fr ((bal fr) - v)) ac (((upd bal fr ((bal fr) - v)) ac) + v)))), (b5, .inl (kI, 500, .inl ka)), (b6, .inl (kI, 500, .inl kN)), (b7, .inl (kI, 500, .inl kv)), (b9, .inl (kI, 192, .inl oBx)), (b10, .inl (kI, 4000, .inl oAx)), (b11, .inl (kI, 4000, .inl oNx)), (b12, .inl (kI, 4000, .inl oVx)), (b13, .inl (kI, 8, .inl (fun j => nI (va_up oK D kn j)))), (b14, .inl (kI, 8, .inl (fun j => nI (va_up oL D ln j)))), (b16, .inl (kI, 8, .inl (fun j => nI (va_up ht D 0 j)))), (b17, .inl (kI, 8, .inl (fun j => nI (pp j)))), (b20, .inl (kI, 8, .inl cr)), (b21, .inl (kI, 8, .inl vv)), (b22, .inl (kI, 8, .inl (fun j => nI (gg j)))), (b23, .inl (kI, 8, .inl (fun j => nI (rc j))))] H := hP
              have hD : va_D A [(m0, .inr (6, [.int f0, .int (nI nA), .ref b1, .ref b2, .ref b3, .ref b4, .ref b5, .ref b6, .ref b7, .int (nI kn), .ref b8, .int (nI ln), .ref b9, .ref b10, .ref b11, .ref b12, .ref b13, .ref b14, .int (nI D), .ref b15, .ref b16, .ref b17, .ref b18, .ref b19, .ref b20, .ref b21, .ref b22, .ref b23, .ref b24, .int (nI an), .int f2, .int f3, .int f4, .int f5])), (b1, .inl (kI, 24, .inl (upd (upd bal fr ((bal fr) - v)) ac (((upd bal fr ((bal fr) - v)) ac) + v)))), (b5, .inl (kI, 500, .inl ka)), (b6, .inl (kI, 500, .inl kN)), (b7, .inl (kI, 500, .inl kv)), (b9, .inl (kI, 192, .inl oBx)), (b10, .inl (kI, 4000, .inl oAx)), (b11, .inl (kI, 4000, .inl oNx)), (b12, .inl (kI, 4000, .inl oVx)), (b13, .inl (kI, 8, .inl (fun j => nI (va_up oK D kn j)))), (b14, .inl (kI, 8, .inl (fun j => nI (va_up oL D ln j)))), (b16, .inl (kI, 8, .inl (fun j => nI (va_up ht D 0 j)))), (b17, .inl (kI, 8, .inl (fun j => nI (pp j)))), (b20, .inl (kI, 8, .inl cr)), (b21, .inl (kI, 8, .inl vv)), (b22, .inl (kI, 8, .inl (fun j => nI (gg j)))), (b23, .inl (kI, 8, .inl (fun j => nI (rc j))))] := hD
              refine lv_aload_n hx hb dMod_begin_189 rfl (lv_at hl 0 rfl) ?_
              refine va_get (D := (dC, dI)) (ci := 6) (v := .ref b17) (C := RMod) (T := TMod) (N := 34) hx hb hts (fun w h => List.mem_cons_of_mem _ (layMod w h)) hown hK hP 0 rfl rfl 21 (by decide) (hts (.fieldLink RMod 59 "CallLedgerModel" "places" "[I") (List.mem_cons_of_mem _ gw665)) (fun _ h9 => h9) rfl dMod_begin_190 ?_
              refine lv_aload_n hx hb dMod_begin_193 rfl (lv_at hl 0 rfl) ?_
              refine va_get (D := (dC, dI)) (ci := 6) (v := .int (nI D)) (C := RMod) (T := TMod) (N := 34) hx hb hts (fun w h => List.mem_cons_of_mem _ (layMod w h)) hown hK hP 0 rfl rfl 18 (by decide) (hts (.fieldLink RMod 126 "CallLedgerModel" "depth" "I") (List.mem_cons_of_mem _ gw662)) (fun _ h9 => h9) rfl dMod_begin_194 ?_
              refine lv_iconst (v := 0) hx hb dMod_begin_197 (by decide) ?_
              refine x_iast (j := D) hx hb hK hP hD hS 12 0 rfl rfl rfl (by omega) (by omega) dMod_begin_198 (fun H locs hP hD hS => ?_)
              have hP : va_P (dC, dI) xCl [(m0, .inr (6, [.int f0, .int (nI nA), .ref b1, .ref b2, .ref b3, .ref b4, .ref b5, .ref b6, .ref b7, .int (nI kn), .ref b8, .int (nI ln), .ref b9, .ref b10, .ref b11, .ref b12, .ref b13, .ref b14, .int (nI D), .ref b15, .ref b16, .ref b17, .ref b18, .ref b19, .ref b20, .ref b21, .ref b22, .ref b23, .ref b24, .int (nI an), .int f2, .int f3, .int f4, .int f5])), (b1, .inl (kI, 24, .inl (upd (upd bal fr ((bal fr) - v)) ac (((upd bal fr ((bal fr) - v)) ac) + v)))), (b5, .inl (kI, 500, .inl ka)), (b6, .inl (kI, 500, .inl kN)), (b7, .inl (kI, 500, .inl kv)), (b9, .inl (kI, 192, .inl oBx)), (b10, .inl (kI, 4000, .inl oAx)), (b11, .inl (kI, 4000, .inl oNx)), (b12, .inl (kI, 4000, .inl oVx)), (b13, .inl (kI, 8, .inl (fun j => nI (va_up oK D kn j)))), (b14, .inl (kI, 8, .inl (fun j => nI (va_up oL D ln j)))), (b16, .inl (kI, 8, .inl (fun j => nI (va_up ht D 0 j)))), (b17, .inl (kI, 8, .inl (upd (fun j => nI (pp j)) D 0))), (b20, .inl (kI, 8, .inl cr)), (b21, .inl (kI, 8, .inl vv)), (b22, .inl (kI, 8, .inl (fun j => nI (gg j)))), (b23, .inl (kI, 8, .inl (fun j => nI (rc j))))] H := hP
              have hD : va_D A [(m0, .inr (6, [.int f0, .int (nI nA), .ref b1, .ref b2, .ref b3, .ref b4, .ref b5, .ref b6, .ref b7, .int (nI kn), .ref b8, .int (nI ln), .ref b9, .ref b10, .ref b11, .ref b12, .ref b13, .ref b14, .int (nI D), .ref b15, .ref b16, .ref b17, .ref b18, .ref b19, .ref b20, .ref b21, .ref b22, .ref b23, .ref b24, .int (nI an), .int f2, .int f3, .int f4, .int f5])), (b1, .inl (kI, 24, .inl (upd (upd bal fr ((bal fr) - v)) ac (((upd bal fr ((bal fr) - v)) ac) + v)))), (b5, .inl (kI, 500, .inl ka)), (b6, .inl (kI, 500, .inl kN)), (b7, .inl (kI, 500, .inl kv)), (b9, .inl (kI, 192, .inl oBx)), (b10, .inl (kI, 4000, .inl oAx)), (b11, .inl (kI, 4000, .inl oNx)), (b12, .inl (kI, 4000, .inl oVx)), (b13, .inl (kI, 8, .inl (fun j => nI (va_up oK D kn j)))), (b14, .inl (kI, 8, .inl (fun j => nI (va_up oL D ln j)))), (b16, .inl (kI, 8, .inl (fun j => nI (va_up ht D 0 j)))), (b17, .inl (kI, 8, .inl (upd (fun j => nI (pp j)) D 0))), (b20, .inl (kI, 8, .inl cr)), (b21, .inl (kI, 8, .inl vv)), (b22, .inl (kI, 8, .inl (fun j => nI (gg j)))), (b23, .inl (kI, 8, .inl (fun j => nI (rc j))))] := hD
              rw [(show upd (fun j => nI (pp j)) D 0 = fun j => nI (va_up pp D 0 j) from x_updL pp D 0)] at hP hD
              have hP : va_P (dC, dI) xCl [(m0, .inr (6, [.int f0, .int (nI nA), .ref b1, .ref b2, .ref b3, .ref b4, .ref b5, .ref b6, .ref b7, .int (nI kn), .ref b8, .int (nI ln), .ref b9, .ref b10, .ref b11, .ref b12, .ref b13, .ref b14, .int (nI D), .ref b15, .ref b16, .ref b17, .ref b18, .ref b19, .ref b20, .ref b21, .ref b22, .ref b23, .ref b24, .int (nI an), .int f2, .int f3, .int f4, .int f5])), (b1, .inl (kI, 24, .inl (upd (upd bal fr ((bal fr) - v)) ac (((upd bal fr ((bal fr) - v)) ac) + v)))), (b5, .inl (kI, 500, .inl ka)), (b6, .inl (kI, 500, .inl kN)), (b7, .inl (kI, 500, .inl kv)), (b9, .inl (kI, 192, .inl oBx)), (b10, .inl (kI, 4000, .inl oAx)), (b11, .inl (kI, 4000, .inl oNx)), (b12, .inl (kI, 4000, .inl oVx)), (b13, .inl (kI, 8, .inl (fun j => nI (va_up oK D kn j)))), (b14, .inl (kI, 8, .inl (fun j => nI (va_up oL D ln j)))), (b16, .inl (kI, 8, .inl (fun j => nI (va_up ht D 0 j)))), (b17, .inl (kI, 8, .inl (fun j => nI (va_up pp D 0 j)))), (b20, .inl (kI, 8, .inl cr)), (b21, .inl (kI, 8, .inl vv)), (b22, .inl (kI, 8, .inl (fun j => nI (gg j)))), (b23, .inl (kI, 8, .inl (fun j => nI (rc j))))] H := hP
              have hD : va_D A [(m0, .inr (6, [.int f0, .int (nI nA), .ref b1, .ref b2, .ref b3, .ref b4, .ref b5, .ref b6, .ref b7, .int (nI kn), .ref b8, .int (nI ln), .ref b9, .ref b10, .ref b11, .ref b12, .ref b13, .ref b14, .int (nI D), .ref b15, .ref b16, .ref b17, .ref b18, .ref b19, .ref b20, .ref b21, .ref b22, .ref b23, .ref b24, .int (nI an), .int f2, .int f3, .int f4, .int f5])), (b1, .inl (kI, 24, .inl (upd (upd bal fr ((bal fr) - v)) ac (((upd bal fr ((bal fr) - v)) ac) + v)))), (b5, .inl (kI, 500, .inl ka)), (b6, .inl (kI, 500, .inl kN)), (b7, .inl (kI, 500, .inl kv)), (b9, .inl (kI, 192, .inl oBx)), (b10, .inl (kI, 4000, .inl oAx)), (b11, .inl (kI, 4000, .inl oNx)), (b12, .inl (kI, 4000, .inl oVx)), (b13, .inl (kI, 8, .inl (fun j => nI (va_up oK D kn j)))), (b14, .inl (kI, 8, .inl (fun j => nI (va_up oL D ln j)))), (b16, .inl (kI, 8, .inl (fun j => nI (va_up ht D 0 j)))), (b17, .inl (kI, 8, .inl (fun j => nI (va_up pp D 0 j)))), (b20, .inl (kI, 8, .inl cr)), (b21, .inl (kI, 8, .inl vv)), (b22, .inl (kI, 8, .inl (fun j => nI (gg j)))), (b23, .inl (kI, 8, .inl (fun j => nI (rc j))))] := hD
              refine lv_aload_n hx hb dMod_begin_199 rfl (lv_at hl 0 rfl) ?_
              refine va_get (D := (dC, dI)) (ci := 6) (v := .ref b20) (C := RMod) (T := TMod) (N := 34) hx hb hts (fun w h => List.mem_cons_of_mem _ (layMod w h)) hown hK hP 0 rfl rfl 24 (by decide) (hts (.fieldLink RMod 68 "CallLedgerModel" "callers" "[I") (List.mem_cons_of_mem _ gw668)) (fun _ h9 => h9) rfl dMod_begin_200 ?_
              refine lv_aload_n hx hb dMod_begin_203 rfl (lv_at hl 0 rfl) ?_
              refine va_get (D := (dC, dI)) (ci := 6) (v := .int (nI D)) (C := RMod) (T := TMod) (N := 34) hx hb hts (fun w h => List.mem_cons_of_mem _ (layMod w h)) hown hK hP 0 rfl rfl 18 (by decide) (hts (.fieldLink RMod 126 "CallLedgerModel" "depth" "I") (List.mem_cons_of_mem _ gw662)) (fun _ h9 => h9) rfl dMod_begin_204 ?_
              refine lv_iload_n hx hb dMod_begin_207 rfl (lv_at hl 1 rfl) ?_
              refine x_iast (j := D) hx hb hK hP hD hS 13 0 rfl rfl rfl (by omega) (by omega) dMod_begin_208 (fun H locs hP hD hS => ?_)
              have hP : va_P (dC, dI) xCl [(m0, .inr (6, [.int f0, .int (nI nA), .ref b1, .ref b2, .ref b3, .ref b4, .ref b5, .ref b6, .ref b7, .int (nI kn), .ref b8, .int (nI ln), .ref b9, .ref b10, .ref b11, .ref b12, .ref b13, .ref b14, .int (nI D), .ref b15, .ref b16, .ref b17, .ref b18, .ref b19, .ref b20, .ref b21, .ref b22, .ref b23, .ref b24, .int (nI an), .int f2, .int f3, .int f4, .int f5])), (b1, .inl (kI, 24, .inl (upd (upd bal fr ((bal fr) - v)) ac (((upd bal fr ((bal fr) - v)) ac) + v)))), (b5, .inl (kI, 500, .inl ka)), (b6, .inl (kI, 500, .inl kN)), (b7, .inl (kI, 500, .inl kv)), (b9, .inl (kI, 192, .inl oBx)), (b10, .inl (kI, 4000, .inl oAx)), (b11, .inl (kI, 4000, .inl oNx)), (b12, .inl (kI, 4000, .inl oVx)), (b13, .inl (kI, 8, .inl (fun j => nI (va_up oK D kn j)))), (b14, .inl (kI, 8, .inl (fun j => nI (va_up oL D ln j)))), (b16, .inl (kI, 8, .inl (fun j => nI (va_up ht D 0 j)))), (b17, .inl (kI, 8, .inl (fun j => nI (va_up pp D 0 j)))), (b20, .inl (kI, 8, .inl (upd cr D (nI fr)))), (b21, .inl (kI, 8, .inl vv)), (b22, .inl (kI, 8, .inl (fun j => nI (gg j)))), (b23, .inl (kI, 8, .inl (fun j => nI (rc j))))] H := hP
              have hD : va_D A [(m0, .inr (6, [.int f0, .int (nI nA), .ref b1, .ref b2, .ref b3, .ref b4, .ref b5, .ref b6, .ref b7, .int (nI kn), .ref b8, .int (nI ln), .ref b9, .ref b10, .ref b11, .ref b12, .ref b13, .ref b14, .int (nI D), .ref b15, .ref b16, .ref b17, .ref b18, .ref b19, .ref b20, .ref b21, .ref b22, .ref b23, .ref b24, .int (nI an), .int f2, .int f3, .int f4, .int f5])), (b1, .inl (kI, 24, .inl (upd (upd bal fr ((bal fr) - v)) ac (((upd bal fr ((bal fr) - v)) ac) + v)))), (b5, .inl (kI, 500, .inl ka)), (b6, .inl (kI, 500, .inl kN)), (b7, .inl (kI, 500, .inl kv)), (b9, .inl (kI, 192, .inl oBx)), (b10, .inl (kI, 4000, .inl oAx)), (b11, .inl (kI, 4000, .inl oNx)), (b12, .inl (kI, 4000, .inl oVx)), (b13, .inl (kI, 8, .inl (fun j => nI (va_up oK D kn j)))), (b14, .inl (kI, 8, .inl (fun j => nI (va_up oL D ln j)))), (b16, .inl (kI, 8, .inl (fun j => nI (va_up ht D 0 j)))), (b17, .inl (kI, 8, .inl (fun j => nI (va_up pp D 0 j)))), (b20, .inl (kI, 8, .inl (upd cr D (nI fr)))), (b21, .inl (kI, 8, .inl vv)), (b22, .inl (kI, 8, .inl (fun j => nI (gg j)))), (b23, .inl (kI, 8, .inl (fun j => nI (rc j))))] := hD
              refine lv_aload_n hx hb dMod_begin_209 rfl (lv_at hl 0 rfl) ?_
              refine va_get (D := (dC, dI)) (ci := 6) (v := .ref b21) (C := RMod) (T := TMod) (N := 34) hx hb hts (fun w h => List.mem_cons_of_mem _ (layMod w h)) hown hK hP 0 rfl rfl 25 (by decide) (hts (.fieldLink RMod 71 "CallLedgerModel" "values" "[I") (List.mem_cons_of_mem _ gw669)) (fun _ h9 => h9) rfl dMod_begin_210 ?_
              refine lv_aload_n hx hb dMod_begin_213 rfl (lv_at hl 0 rfl) ?_
              refine va_get (D := (dC, dI)) (ci := 6) (v := .int (nI D)) (C := RMod) (T := TMod) (N := 34) hx hb hts (fun w h => List.mem_cons_of_mem _ (layMod w h)) hown hK hP 0 rfl rfl 18 (by decide) (hts (.fieldLink RMod 126 "CallLedgerModel" "depth" "I") (List.mem_cons_of_mem _ gw662)) (fun _ h9 => h9) rfl dMod_begin_214 ?_
              refine lv_iload_n hx hb dMod_begin_217 rfl (lv_at hl 3 rfl) ?_
              refine x_iast (j := D) hx hb hK hP hD hS 14 0 rfl rfl rfl (by omega) (by omega) dMod_begin_218 (fun H locs hP hD hS => ?_)
              have hP : va_P (dC, dI) xCl [(m0, .inr (6, [.int f0, .int (nI nA), .ref b1, .ref b2, .ref b3, .ref b4, .ref b5, .ref b6, .ref b7, .int (nI kn), .ref b8, .int (nI ln), .ref b9, .ref b10, .ref b11, .ref b12, .ref b13, .ref b14, .int (nI D), .ref b15, .ref b16, .ref b17, .ref b18, .ref b19, .ref b20, .ref b21, .ref b22, .ref b23, .ref b24, .int (nI an), .int f2, .int f3, .int f4, .int f5])), (b1, .inl (kI, 24, .inl (upd (upd bal fr ((bal fr) - v)) ac (((upd bal fr ((bal fr) - v)) ac) + v)))), (b5, .inl (kI, 500, .inl ka)), (b6, .inl (kI, 500, .inl kN)), (b7, .inl (kI, 500, .inl kv)), (b9, .inl (kI, 192, .inl oBx)), (b10, .inl (kI, 4000, .inl oAx)), (b11, .inl (kI, 4000, .inl oNx)), (b12, .inl (kI, 4000, .inl oVx)), (b13, .inl (kI, 8, .inl (fun j => nI (va_up oK D kn j)))), (b14, .inl (kI, 8, .inl (fun j => nI (va_up oL D ln j)))), (b16, .inl (kI, 8, .inl (fun j => nI (va_up ht D 0 j)))), (b17, .inl (kI, 8, .inl (fun j => nI (va_up pp D 0 j)))), (b20, .inl (kI, 8, .inl (upd cr D (nI fr)))), (b21, .inl (kI, 8, .inl (upd vv D v))), (b22, .inl (kI, 8, .inl (fun j => nI (gg j)))), (b23, .inl (kI, 8, .inl (fun j => nI (rc j))))] H := hP
              have hD : va_D A [(m0, .inr (6, [.int f0, .int (nI nA), .ref b1, .ref b2, .ref b3, .ref b4, .ref b5, .ref b6, .ref b7, .int (nI kn), .ref b8, .int (nI ln), .ref b9, .ref b10, .ref b11, .ref b12, .ref b13, .ref b14, .int (nI D), .ref b15, .ref b16, .ref b17, .ref b18, .ref b19, .ref b20, .ref b21, .ref b22, .ref b23, .ref b24, .int (nI an), .int f2, .int f3, .int f4, .int f5])), (b1, .inl (kI, 24, .inl (upd (upd bal fr ((bal fr) - v)) ac (((upd bal fr ((bal fr) - v)) ac) + v)))), (b5, .inl (kI, 500, .inl ka)), (b6, .inl (kI, 500, .inl kN)), (b7, .inl (kI, 500, .inl kv)), (b9, .inl (kI, 192, .inl oBx)), (b10, .inl (kI, 4000, .inl oAx)), (b11, .inl (kI, 4000, .inl oNx)), (b12, .inl (kI, 4000, .inl oVx)), (b13, .inl (kI, 8, .inl (fun j => nI (va_up oK D kn j)))), (b14, .inl (kI, 8, .inl (fun j => nI (va_up oL D ln j)))), (b16, .inl (kI, 8, .inl (fun j => nI (va_up ht D 0 j)))), (b17, .inl (kI, 8, .inl (fun j => nI (va_up pp D 0 j)))), (b20, .inl (kI, 8, .inl (upd cr D (nI fr)))), (b21, .inl (kI, 8, .inl (upd vv D v))), (b22, .inl (kI, 8, .inl (fun j => nI (gg j)))), (b23, .inl (kI, 8, .inl (fun j => nI (rc j))))] := hD
              refine lv_aload_n hx hb dMod_begin_219 rfl (lv_at hl 0 rfl) ?_
              refine va_get (D := (dC, dI)) (ci := 6) (v := .ref b22) (C := RMod) (T := TMod) (N := 34) hx hb hts (fun w h => List.mem_cons_of_mem _ (layMod w h)) hown hK hP 0 rfl rfl 26 (by decide) (hts (.fieldLink RMod 74 "CallLedgerModel" "gases" "[I") (List.mem_cons_of_mem _ gw670)) (fun _ h9 => h9) rfl dMod_begin_220 ?_
              refine lv_aload_n hx hb dMod_begin_223 rfl (lv_at hl 0 rfl) ?_
              refine va_get (D := (dC, dI)) (ci := 6) (v := .int (nI D)) (C := RMod) (T := TMod) (N := 34) hx hb hts (fun w h => List.mem_cons_of_mem _ (layMod w h)) hown hK hP 0 rfl rfl 18 (by decide) (hts (.fieldLink RMod 126 "CallLedgerModel" "depth" "I") (List.mem_cons_of_mem _ gw662)) (fun _ h9 => h9) rfl dMod_begin_224 ?_
              refine lv_iload hx hb dMod_begin_227 (lv_at hl 4 rfl) ?_
              refine x_iast (j := D) hx hb hK hP hD hS 15 0 rfl rfl rfl (by omega) (by omega) dMod_begin_229 (fun H locs hP hD hS => ?_)
              have hP : va_P (dC, dI) xCl [(m0, .inr (6, [.int f0, .int (nI nA), .ref b1, .ref b2, .ref b3, .ref b4, .ref b5, .ref b6, .ref b7, .int (nI kn), .ref b8, .int (nI ln), .ref b9, .ref b10, .ref b11, .ref b12, .ref b13, .ref b14, .int (nI D), .ref b15, .ref b16, .ref b17, .ref b18, .ref b19, .ref b20, .ref b21, .ref b22, .ref b23, .ref b24, .int (nI an), .int f2, .int f3, .int f4, .int f5])), (b1, .inl (kI, 24, .inl (upd (upd bal fr ((bal fr) - v)) ac (((upd bal fr ((bal fr) - v)) ac) + v)))), (b5, .inl (kI, 500, .inl ka)), (b6, .inl (kI, 500, .inl kN)), (b7, .inl (kI, 500, .inl kv)), (b9, .inl (kI, 192, .inl oBx)), (b10, .inl (kI, 4000, .inl oAx)), (b11, .inl (kI, 4000, .inl oNx)), (b12, .inl (kI, 4000, .inl oVx)), (b13, .inl (kI, 8, .inl (fun j => nI (va_up oK D kn j)))), (b14, .inl (kI, 8, .inl (fun j => nI (va_up oL D ln j)))), (b16, .inl (kI, 8, .inl (fun j => nI (va_up ht D 0 j)))), (b17, .inl (kI, 8, .inl (fun j => nI (va_up pp D 0 j)))), (b20, .inl (kI, 8, .inl (upd cr D (nI fr)))), (b21, .inl (kI, 8, .inl (upd vv D v))), (b22, .inl (kI, 8, .inl (upd (fun j => nI (gg j)) D (nI g)))), (b23, .inl (kI, 8, .inl (fun j => nI (rc j))))] H := hP
              have hD : va_D A [(m0, .inr (6, [.int f0, .int (nI nA), .ref b1, .ref b2, .ref b3, .ref b4, .ref b5, .ref b6, .ref b7, .int (nI kn), .ref b8, .int (nI ln), .ref b9, .ref b10, .ref b11, .ref b12, .ref b13, .ref b14, .int (nI D), .ref b15, .ref b16, .ref b17, .ref b18, .ref b19, .ref b20, .ref b21, .ref b22, .ref b23, .ref b24, .int (nI an), .int f2, .int f3, .int f4, .int f5])), (b1, .inl (kI, 24, .inl (upd (upd bal fr ((bal fr) - v)) ac (((upd bal fr ((bal fr) - v)) ac) + v)))), (b5, .inl (kI, 500, .inl ka)), (b6, .inl (kI, 500, .inl kN)), (b7, .inl (kI, 500, .inl kv)), (b9, .inl (kI, 192, .inl oBx)), (b10, .inl (kI, 4000, .inl oAx)), (b11, .inl (kI, 4000, .inl oNx)), (b12, .inl (kI, 4000, .inl oVx)), (b13, .inl (kI, 8, .inl (fun j => nI (va_up oK D kn j)))), (b14, .inl (kI, 8, .inl (fun j => nI (va_up oL D ln j)))), (b16, .inl (kI, 8, .inl (fun j => nI (va_up ht D 0 j)))), (b17, .inl (kI, 8, .inl (fun j => nI (va_up pp D 0 j)))), (b20, .inl (kI, 8, .inl (upd cr D (nI fr)))), (b21, .inl (kI, 8, .inl (upd vv D v))), (b22, .inl (kI, 8, .inl (upd (fun j => nI (gg j)) D (nI g)))), (b23, .inl (kI, 8, .inl (fun j => nI (rc j))))] := hD
              rw [(show upd (fun j => nI (gg j)) D (nI g) = fun j => nI (va_up gg D g j) from x_updL gg D g)] at hP hD
              have hP : va_P (dC, dI) xCl [(m0, .inr (6, [.int f0, .int (nI nA), .ref b1, .ref b2, .ref b3, .ref b4, .ref b5, .ref b6, .ref b7, .int (nI kn), .ref b8, .int (nI ln), .ref b9, .ref b10, .ref b11, .ref b12, .ref b13, .ref b14, .int (nI D), .ref b15, .ref b16, .ref b17, .ref b18, .ref b19, .ref b20, .ref b21, .ref b22, .ref b23, .ref b24, .int (nI an), .int f2, .int f3, .int f4, .int f5])), (b1, .inl (kI, 24, .inl (upd (upd bal fr ((bal fr) - v)) ac (((upd bal fr ((bal fr) - v)) ac) + v)))), (b5, .inl (kI, 500, .inl ka)), (b6, .inl (kI, 500, .inl kN)), (b7, .inl (kI, 500, .inl kv)), (b9, .inl (kI, 192, .inl oBx)), (b10, .inl (kI, 4000, .inl oAx)), (b11, .inl (kI, 4000, .inl oNx)), (b12, .inl (kI, 4000, .inl oVx)), (b13, .inl (kI, 8, .inl (fun j => nI (va_up oK D kn j)))), (b14, .inl (kI, 8, .inl (fun j => nI (va_up oL D ln j)))), (b16, .inl (kI, 8, .inl (fun j => nI (va_up ht D 0 j)))), (b17, .inl (kI, 8, .inl (fun j => nI (va_up pp D 0 j)))), (b20, .inl (kI, 8, .inl (upd cr D (nI fr)))), (b21, .inl (kI, 8, .inl (upd vv D v))), (b22, .inl (kI, 8, .inl (fun j => nI (va_up gg D g j)))), (b23, .inl (kI, 8, .inl (fun j => nI (rc j))))] H := hP
              have hD : va_D A [(m0, .inr (6, [.int f0, .int (nI nA), .ref b1, .ref b2, .ref b3, .ref b4, .ref b5, .ref b6, .ref b7, .int (nI kn), .ref b8, .int (nI ln), .ref b9, .ref b10, .ref b11, .ref b12, .ref b13, .ref b14, .int (nI D), .ref b15, .ref b16, .ref b17, .ref b18, .ref b19, .ref b20, .ref b21, .ref b22, .ref b23, .ref b24, .int (nI an), .int f2, .int f3, .int f4, .int f5])), (b1, .inl (kI, 24, .inl (upd (upd bal fr ((bal fr) - v)) ac (((upd bal fr ((bal fr) - v)) ac) + v)))), (b5, .inl (kI, 500, .inl ka)), (b6, .inl (kI, 500, .inl kN)), (b7, .inl (kI, 500, .inl kv)), (b9, .inl (kI, 192, .inl oBx)), (b10, .inl (kI, 4000, .inl oAx)), (b11, .inl (kI, 4000, .inl oNx)), (b12, .inl (kI, 4000, .inl oVx)), (b13, .inl (kI, 8, .inl (fun j => nI (va_up oK D kn j)))), (b14, .inl (kI, 8, .inl (fun j => nI (va_up oL D ln j)))), (b16, .inl (kI, 8, .inl (fun j => nI (va_up ht D 0 j)))), (b17, .inl (kI, 8, .inl (fun j => nI (va_up pp D 0 j)))), (b20, .inl (kI, 8, .inl (upd cr D (nI fr)))), (b21, .inl (kI, 8, .inl (upd vv D v))), (b22, .inl (kI, 8, .inl (fun j => nI (va_up gg D g j)))), (b23, .inl (kI, 8, .inl (fun j => nI (rc j))))] := hD
              refine lv_aload_n hx hb dMod_begin_230 rfl (lv_at hl 0 rfl) ?_
              refine va_get (D := (dC, dI)) (ci := 6) (v := .ref b23) (C := RMod) (T := TMod) (N := 34) hx hb hts (fun w h => List.mem_cons_of_mem _ (layMod w h)) hown hK hP 0 rfl rfl 27 (by decide) (hts (.fieldLink RMod 77 "CallLedgerModel" "runAccounts" "[I") (List.mem_cons_of_mem _ gw671)) (fun _ h9 => h9) rfl dMod_begin_231 ?_
              refine lv_aload_n hx hb dMod_begin_234 rfl (lv_at hl 0 rfl) ?_
              refine va_get (D := (dC, dI)) (ci := 6) (v := .int (nI D)) (C := RMod) (T := TMod) (N := 34) hx hb hts (fun w h => List.mem_cons_of_mem _ (layMod w h)) hown hK hP 0 rfl rfl 18 (by decide) (hts (.fieldLink RMod 126 "CallLedgerModel" "depth" "I") (List.mem_cons_of_mem _ gw662)) (fun _ h9 => h9) rfl dMod_begin_235 ?_
              refine lv_iload_n hx hb dMod_begin_238 rfl (lv_at hl 2 rfl) ?_
              refine x_iast (j := D) hx hb hK hP hD hS 16 0 rfl rfl rfl (by omega) (by omega) dMod_begin_239 (fun H locs hP hD hS => ?_)
              have hP : va_P (dC, dI) xCl [(m0, .inr (6, [.int f0, .int (nI nA), .ref b1, .ref b2, .ref b3, .ref b4, .ref b5, .ref b6, .ref b7, .int (nI kn), .ref b8, .int (nI ln), .ref b9, .ref b10, .ref b11, .ref b12, .ref b13, .ref b14, .int (nI D), .ref b15, .ref b16, .ref b17, .ref b18, .ref b19, .ref b20, .ref b21, .ref b22, .ref b23, .ref b24, .int (nI an), .int f2, .int f3, .int f4, .int f5])), (b1, .inl (kI, 24, .inl (upd (upd bal fr ((bal fr) - v)) ac (((upd bal fr ((bal fr) - v)) ac) + v)))), (b5, .inl (kI, 500, .inl ka)), (b6, .inl (kI, 500, .inl kN)), (b7, .inl (kI, 500, .inl kv)), (b9, .inl (kI, 192, .inl oBx)), (b10, .inl (kI, 4000, .inl oAx)), (b11, .inl (kI, 4000, .inl oNx)), (b12, .inl (kI, 4000, .inl oVx)), (b13, .inl (kI, 8, .inl (fun j => nI (va_up oK D kn j)))), (b14, .inl (kI, 8, .inl (fun j => nI (va_up oL D ln j)))), (b16, .inl (kI, 8, .inl (fun j => nI (va_up ht D 0 j)))), (b17, .inl (kI, 8, .inl (fun j => nI (va_up pp D 0 j)))), (b20, .inl (kI, 8, .inl (upd cr D (nI fr)))), (b21, .inl (kI, 8, .inl (upd vv D v))), (b22, .inl (kI, 8, .inl (fun j => nI (va_up gg D g j)))), (b23, .inl (kI, 8, .inl (upd (fun j => nI (rc j)) D (nI ac))))] H := hP
              have hD : va_D A [(m0, .inr (6, [.int f0, .int (nI nA), .ref b1, .ref b2, .ref b3, .ref b4, .ref b5, .ref b6, .ref b7, .int (nI kn), .ref b8, .int (nI ln), .ref b9, .ref b10, .ref b11, .ref b12, .ref b13, .ref b14, .int (nI D), .ref b15, .ref b16, .ref b17, .ref b18, .ref b19, .ref b20, .ref b21, .ref b22, .ref b23, .ref b24, .int (nI an), .int f2, .int f3, .int f4, .int f5])), (b1, .inl (kI, 24, .inl (upd (upd bal fr ((bal fr) - v)) ac (((upd bal fr ((bal fr) - v)) ac) + v)))), (b5, .inl (kI, 500, .inl ka)), (b6, .inl (kI, 500, .inl kN)), (b7, .inl (kI, 500, .inl kv)), (b9, .inl (kI, 192, .inl oBx)), (b10, .inl (kI, 4000, .inl oAx)), (b11, .inl (kI, 4000, .inl oNx)), (b12, .inl (kI, 4000, .inl oVx)), (b13, .inl (kI, 8, .inl (fun j => nI (va_up oK D kn j)))), (b14, .inl (kI, 8, .inl (fun j => nI (va_up oL D ln j)))), (b16, .inl (kI, 8, .inl (fun j => nI (va_up ht D 0 j)))), (b17, .inl (kI, 8, .inl (fun j => nI (va_up pp D 0 j)))), (b20, .inl (kI, 8, .inl (upd cr D (nI fr)))), (b21, .inl (kI, 8, .inl (upd vv D v))), (b22, .inl (kI, 8, .inl (fun j => nI (va_up gg D g j)))), (b23, .inl (kI, 8, .inl (upd (fun j => nI (rc j)) D (nI ac))))] := hD
              rw [(show upd (fun j => nI (rc j)) D (nI ac) = fun j => nI (va_up rc D ac j) from x_updL rc D ac)] at hP hD
              have hP : va_P (dC, dI) xCl [(m0, .inr (6, [.int f0, .int (nI nA), .ref b1, .ref b2, .ref b3, .ref b4, .ref b5, .ref b6, .ref b7, .int (nI kn), .ref b8, .int (nI ln), .ref b9, .ref b10, .ref b11, .ref b12, .ref b13, .ref b14, .int (nI D), .ref b15, .ref b16, .ref b17, .ref b18, .ref b19, .ref b20, .ref b21, .ref b22, .ref b23, .ref b24, .int (nI an), .int f2, .int f3, .int f4, .int f5])), (b1, .inl (kI, 24, .inl (upd (upd bal fr ((bal fr) - v)) ac (((upd bal fr ((bal fr) - v)) ac) + v)))), (b5, .inl (kI, 500, .inl ka)), (b6, .inl (kI, 500, .inl kN)), (b7, .inl (kI, 500, .inl kv)), (b9, .inl (kI, 192, .inl oBx)), (b10, .inl (kI, 4000, .inl oAx)), (b11, .inl (kI, 4000, .inl oNx)), (b12, .inl (kI, 4000, .inl oVx)), (b13, .inl (kI, 8, .inl (fun j => nI (va_up oK D kn j)))), (b14, .inl (kI, 8, .inl (fun j => nI (va_up oL D ln j)))), (b16, .inl (kI, 8, .inl (fun j => nI (va_up ht D 0 j)))), (b17, .inl (kI, 8, .inl (fun j => nI (va_up pp D 0 j)))), (b20, .inl (kI, 8, .inl (upd cr D (nI fr)))), (b21, .inl (kI, 8, .inl (upd vv D v))), (b22, .inl (kI, 8, .inl (fun j => nI (va_up gg D g j)))), (b23, .inl (kI, 8, .inl (fun j => nI (va_up rc D ac j))))] H := hP
              have hD : va_D A [(m0, .inr (6, [.int f0, .int (nI nA), .ref b1, .ref b2, .ref b3, .ref b4, .ref b5, .ref b6, .ref b7, .int (nI kn), .ref b8, .int (nI ln), .ref b9, .ref b10, .ref b11, .ref b12, .ref b13, .ref b14, .int (nI D), .ref b15, .ref b16, .ref b17, .ref b18, .ref b19, .ref b20, .ref b21, .ref b22, .ref b23, .ref b24, .int (nI an), .int f2, .int f3, .int f4, .int f5])), (b1, .inl (kI, 24, .inl (upd (upd bal fr ((bal fr) - v)) ac (((upd bal fr ((bal fr) - v)) ac) + v)))), (b5, .inl (kI, 500, .inl ka)), (b6, .inl (kI, 500, .inl kN)), (b7, .inl (kI, 500, .inl kv)), (b9, .inl (kI, 192, .inl oBx)), (b10, .inl (kI, 4000, .inl oAx)), (b11, .inl (kI, 4000, .inl oNx)), (b12, .inl (kI, 4000, .inl oVx)), (b13, .inl (kI, 8, .inl (fun j => nI (va_up oK D kn j)))), (b14, .inl (kI, 8, .inl (fun j => nI (va_up oL D ln j)))), (b16, .inl (kI, 8, .inl (fun j => nI (va_up ht D 0 j)))), (b17, .inl (kI, 8, .inl (fun j => nI (va_up pp D 0 j)))), (b20, .inl (kI, 8, .inl (upd cr D (nI fr)))), (b21, .inl (kI, 8, .inl (upd vv D v))), (b22, .inl (kI, 8, .inl (fun j => nI (va_up gg D g j)))), (b23, .inl (kI, 8, .inl (fun j => nI (va_up rc D ac j))))] := hD
              exact hret  ((oBx, oAx, oNx, oVx)) _ _ _ (⟨hsB, hsA, hsN, hsV⟩) (hP.sub [0, 1, 2, 3, 4, 5, 6, 7, 8, 9, 10, 11, 12, 15, 16, 13, 14] rfl) (hD.sub [0, 1, 2, 3, 4, 5, 6, 7, 8, 9, 10, 11, 12, 15, 16, 13, 14] (by decide) rfl) hS dMod_begin_240
            · have c47 : ¬ (kn ≤ i) := fun z9 => c47 ((nI_leI (a := kn) (b := i) (by omega) (by omega)).mpr z9)
              refine lv_aload_n hx hb dMod_begin_50 rfl (lv_at hl 0 rfl) ?_
              refine va_get (D := (dC, dI)) (ci := 6) (v := .ref b10) (C := RMod) (T := TMod) (N := 34) hx hb hts (fun w h => List.mem_cons_of_mem _ (layMod w h)) hown hK hP 0 rfl rfl 13 (by decide) (hts (.fieldLink RMod 38 "CallLedgerModel" "oldAccounts" "[I") (List.mem_cons_of_mem _ gw657)) (fun _ h9 => h9) rfl dMod_begin_51 ?_
              refine lv_sipush (v := 500) hx hb dMod_begin_54 (by decide) ?_
              refine lv_aload_n hx hb dMod_begin_57 rfl (lv_at hl 0 rfl) ?_
              refine va_get (D := (dC, dI)) (ci := 6) (v := .int (nI D)) (C := RMod) (T := TMod) (N := 34) hx hb hts (fun w h => List.mem_cons_of_mem _ (layMod w h)) hown hK hP 0 rfl rfl 18 (by decide) (hts (.fieldLink RMod 126 "CallLedgerModel" "depth" "I") (List.mem_cons_of_mem _ gw662)) (fun _ h9 => h9) rfl dMod_begin_58 ?_
              refine lv_imul hx hb dMod_begin_61 ?_
              refine x_topi (y := nI (500 * D)) (x_mul500) ?_
              refine lv_iload hx hb dMod_begin_62 (lv_at hl 5 rfl) ?_
              refine lv_iadd hx hb dMod_begin_64 ?_
              refine x_topi (y := nI (500 * D + i)) (nI_add _ _) ?_
              refine lv_aload_n hx hb dMod_begin_65 rfl (lv_at hl 0 rfl) ?_
              refine va_get (D := (dC, dI)) (ci := 6) (v := .ref b5) (C := RMod) (T := TMod) (N := 34) hx hb hts (fun w h => List.mem_cons_of_mem _ (layMod w h)) hown hK hP 0 rfl rfl 6 (by decide) (hts (.fieldLink RMod 23 "CallLedgerModel" "keyAccounts" "[I") (List.mem_cons_of_mem _ gw650)) (fun _ h9 => h9) rfl dMod_begin_66 ?_
              refine lv_iload hx hb dMod_begin_69 (lv_at hl 5 rfl) ?_
              refine x_iald (j := i) hx hb hK hP 2 0 rfl rfl rfl (by omega) (by omega) dMod_begin_71 ?_
              refine x_iast (j := 500 * D + i) hx hb hK hP hD hS 6 0 rfl rfl rfl (by omega) (by omega) dMod_begin_72 (fun H locs hP hD hS => ?_)
              have hP : va_P (dC, dI) xCl [(m0, .inr (6, [.int f0, .int (nI nA), .ref b1, .ref b2, .ref b3, .ref b4, .ref b5, .ref b6, .ref b7, .int (nI kn), .ref b8, .int (nI ln), .ref b9, .ref b10, .ref b11, .ref b12, .ref b13, .ref b14, .int (nI D), .ref b15, .ref b16, .ref b17, .ref b18, .ref b19, .ref b20, .ref b21, .ref b22, .ref b23, .ref b24, .int (nI an), .int f2, .int f3, .int f4, .int f5])), (b1, .inl (kI, 24, .inl bal)), (b5, .inl (kI, 500, .inl ka)), (b6, .inl (kI, 500, .inl kN)), (b7, .inl (kI, 500, .inl kv)), (b9, .inl (kI, 192, .inl oBx)), (b10, .inl (kI, 4000, .inl (upd oAx (500 * D + i) (ka i)))), (b11, .inl (kI, 4000, .inl oNx)), (b12, .inl (kI, 4000, .inl oVx)), (b13, .inl (kI, 8, .inl (fun j => nI (oK j)))), (b14, .inl (kI, 8, .inl (fun j => nI (oL j)))), (b16, .inl (kI, 8, .inl (fun j => nI (ht j)))), (b17, .inl (kI, 8, .inl (fun j => nI (pp j)))), (b20, .inl (kI, 8, .inl cr)), (b21, .inl (kI, 8, .inl vv)), (b22, .inl (kI, 8, .inl (fun j => nI (gg j)))), (b23, .inl (kI, 8, .inl (fun j => nI (rc j))))] H := hP
              have hD : va_D A [(m0, .inr (6, [.int f0, .int (nI nA), .ref b1, .ref b2, .ref b3, .ref b4, .ref b5, .ref b6, .ref b7, .int (nI kn), .ref b8, .int (nI ln), .ref b9, .ref b10, .ref b11, .ref b12, .ref b13, .ref b14, .int (nI D), .ref b15, .ref b16, .ref b17, .ref b18, .ref b19, .ref b20, .ref b21, .ref b22, .ref b23, .ref b24, .int (nI an), .int f2, .int f3, .int f4, .int f5])), (b1, .inl (kI, 24, .inl bal)), (b5, .inl (kI, 500, .inl ka)), (b6, .inl (kI, 500, .inl kN)), (b7, .inl (kI, 500, .inl kv)), (b9, .inl (kI, 192, .inl oBx)), (b10, .inl (kI, 4000, .inl (upd oAx (500 * D + i) (ka i)))), (b11, .inl (kI, 4000, .inl oNx)), (b12, .inl (kI, 4000, .inl oVx)), (b13, .inl (kI, 8, .inl (fun j => nI (oK j)))), (b14, .inl (kI, 8, .inl (fun j => nI (oL j)))), (b16, .inl (kI, 8, .inl (fun j => nI (ht j)))), (b17, .inl (kI, 8, .inl (fun j => nI (pp j)))), (b20, .inl (kI, 8, .inl cr)), (b21, .inl (kI, 8, .inl vv)), (b22, .inl (kI, 8, .inl (fun j => nI (gg j)))), (b23, .inl (kI, 8, .inl (fun j => nI (rc j))))] := hD
              refine lv_aload_n hx hb dMod_begin_73 rfl (lv_at hl 0 rfl) ?_
              refine va_get (D := (dC, dI)) (ci := 6) (v := .ref b11) (C := RMod) (T := TMod) (N := 34) hx hb hts (fun w h => List.mem_cons_of_mem _ (layMod w h)) hown hK hP 0 rfl rfl 14 (by decide) (hts (.fieldLink RMod 41 "CallLedgerModel" "oldNames" "[I") (List.mem_cons_of_mem _ gw658)) (fun _ h9 => h9) rfl dMod_begin_74 ?_
              refine lv_sipush (v := 500) hx hb dMod_begin_77 (by decide) ?_
              refine lv_aload_n hx hb dMod_begin_80 rfl (lv_at hl 0 rfl) ?_
              refine va_get (D := (dC, dI)) (ci := 6) (v := .int (nI D)) (C := RMod) (T := TMod) (N := 34) hx hb hts (fun w h => List.mem_cons_of_mem _ (layMod w h)) hown hK hP 0 rfl rfl 18 (by decide) (hts (.fieldLink RMod 126 "CallLedgerModel" "depth" "I") (List.mem_cons_of_mem _ gw662)) (fun _ h9 => h9) rfl dMod_begin_81 ?_
              refine lv_imul hx hb dMod_begin_84 ?_
              refine x_topi (y := nI (500 * D)) (x_mul500) ?_
              refine lv_iload hx hb dMod_begin_85 (lv_at hl 5 rfl) ?_
              refine lv_iadd hx hb dMod_begin_87 ?_
              refine x_topi (y := nI (500 * D + i)) (nI_add _ _) ?_
              refine lv_aload_n hx hb dMod_begin_88 rfl (lv_at hl 0 rfl) ?_
              refine va_get (D := (dC, dI)) (ci := 6) (v := .ref b6) (C := RMod) (T := TMod) (N := 34) hx hb hts (fun w h => List.mem_cons_of_mem _ (layMod w h)) hown hK hP 0 rfl rfl 7 (by decide) (hts (.fieldLink RMod 26 "CallLedgerModel" "keyNames" "[I") (List.mem_cons_of_mem _ gw651)) (fun _ h9 => h9) rfl dMod_begin_89 ?_
              refine lv_iload hx hb dMod_begin_92 (lv_at hl 5 rfl) ?_
              refine x_iald (j := i) hx hb hK hP 3 0 rfl rfl rfl (by omega) (by omega) dMod_begin_94 ?_
              refine x_iast (j := 500 * D + i) hx hb hK hP hD hS 7 0 rfl rfl rfl (by omega) (by omega) dMod_begin_95 (fun H locs hP hD hS => ?_)
              have hP : va_P (dC, dI) xCl [(m0, .inr (6, [.int f0, .int (nI nA), .ref b1, .ref b2, .ref b3, .ref b4, .ref b5, .ref b6, .ref b7, .int (nI kn), .ref b8, .int (nI ln), .ref b9, .ref b10, .ref b11, .ref b12, .ref b13, .ref b14, .int (nI D), .ref b15, .ref b16, .ref b17, .ref b18, .ref b19, .ref b20, .ref b21, .ref b22, .ref b23, .ref b24, .int (nI an), .int f2, .int f3, .int f4, .int f5])), (b1, .inl (kI, 24, .inl bal)), (b5, .inl (kI, 500, .inl ka)), (b6, .inl (kI, 500, .inl kN)), (b7, .inl (kI, 500, .inl kv)), (b9, .inl (kI, 192, .inl oBx)), (b10, .inl (kI, 4000, .inl (upd oAx (500 * D + i) (ka i)))), (b11, .inl (kI, 4000, .inl (upd oNx (500 * D + i) (kN i)))), (b12, .inl (kI, 4000, .inl oVx)), (b13, .inl (kI, 8, .inl (fun j => nI (oK j)))), (b14, .inl (kI, 8, .inl (fun j => nI (oL j)))), (b16, .inl (kI, 8, .inl (fun j => nI (ht j)))), (b17, .inl (kI, 8, .inl (fun j => nI (pp j)))), (b20, .inl (kI, 8, .inl cr)), (b21, .inl (kI, 8, .inl vv)), (b22, .inl (kI, 8, .inl (fun j => nI (gg j)))), (b23, .inl (kI, 8, .inl (fun j => nI (rc j))))] H := hP
              have hD : va_D A [(m0, .inr (6, [.int f0, .int (nI nA), .ref b1, .ref b2, .ref b3, .ref b4, .ref b5, .ref b6, .ref b7, .int (nI kn), .ref b8, .int (nI ln), .ref b9, .ref b10, .ref b11, .ref b12, .ref b13, .ref b14, .int (nI D), .ref b15, .ref b16, .ref b17, .ref b18, .ref b19, .ref b20, .ref b21, .ref b22, .ref b23, .ref b24, .int (nI an), .int f2, .int f3, .int f4, .int f5])), (b1, .inl (kI, 24, .inl bal)), (b5, .inl (kI, 500, .inl ka)), (b6, .inl (kI, 500, .inl kN)), (b7, .inl (kI, 500, .inl kv)), (b9, .inl (kI, 192, .inl oBx)), (b10, .inl (kI, 4000, .inl (upd oAx (500 * D + i) (ka i)))), (b11, .inl (kI, 4000, .inl (upd oNx (500 * D + i) (kN i)))), (b12, .inl (kI, 4000, .inl oVx)), (b13, .inl (kI, 8, .inl (fun j => nI (oK j)))), (b14, .inl (kI, 8, .inl (fun j => nI (oL j)))), (b16, .inl (kI, 8, .inl (fun j => nI (ht j)))), (b17, .inl (kI, 8, .inl (fun j => nI (pp j)))), (b20, .inl (kI, 8, .inl cr)), (b21, .inl (kI, 8, .inl vv)), (b22, .inl (kI, 8, .inl (fun j => nI (gg j)))), (b23, .inl (kI, 8, .inl (fun j => nI (rc j))))] := hD
              refine lv_aload_n hx hb dMod_begin_96 rfl (lv_at hl 0 rfl) ?_
              refine va_get (D := (dC, dI)) (ci := 6) (v := .ref b12) (C := RMod) (T := TMod) (N := 34) hx hb hts (fun w h => List.mem_cons_of_mem _ (layMod w h)) hown hK hP 0 rfl rfl 15 (by decide) (hts (.fieldLink RMod 44 "CallLedgerModel" "oldValues" "[I") (List.mem_cons_of_mem _ gw659)) (fun _ h9 => h9) rfl dMod_begin_97 ?_
              refine lv_sipush (v := 500) hx hb dMod_begin_100 (by decide) ?_
              refine lv_aload_n hx hb dMod_begin_103 rfl (lv_at hl 0 rfl) ?_
              refine va_get (D := (dC, dI)) (ci := 6) (v := .int (nI D)) (C := RMod) (T := TMod) (N := 34) hx hb hts (fun w h => List.mem_cons_of_mem _ (layMod w h)) hown hK hP 0 rfl rfl 18 (by decide) (hts (.fieldLink RMod 126 "CallLedgerModel" "depth" "I") (List.mem_cons_of_mem _ gw662)) (fun _ h9 => h9) rfl dMod_begin_104 ?_
              refine lv_imul hx hb dMod_begin_107 ?_
              refine x_topi (y := nI (500 * D)) (x_mul500) ?_
              refine lv_iload hx hb dMod_begin_108 (lv_at hl 5 rfl) ?_
              refine lv_iadd hx hb dMod_begin_110 ?_
              refine x_topi (y := nI (500 * D + i)) (nI_add _ _) ?_
              refine lv_aload_n hx hb dMod_begin_111 rfl (lv_at hl 0 rfl) ?_
              refine va_get (D := (dC, dI)) (ci := 6) (v := .ref b7) (C := RMod) (T := TMod) (N := 34) hx hb hts (fun w h => List.mem_cons_of_mem _ (layMod w h)) hown hK hP 0 rfl rfl 8 (by decide) (hts (.fieldLink RMod 29 "CallLedgerModel" "keyValues" "[I") (List.mem_cons_of_mem _ gw652)) (fun _ h9 => h9) rfl dMod_begin_112 ?_
              refine lv_iload hx hb dMod_begin_115 (lv_at hl 5 rfl) ?_
              refine x_iald (j := i) hx hb hK hP 4 0 rfl rfl rfl (by omega) (by omega) dMod_begin_117 ?_
              refine x_iast (j := 500 * D + i) hx hb hK hP hD hS 8 0 rfl rfl rfl (by omega) (by omega) dMod_begin_118 (fun H locs hP hD hS => ?_)
              have hP : va_P (dC, dI) xCl [(m0, .inr (6, [.int f0, .int (nI nA), .ref b1, .ref b2, .ref b3, .ref b4, .ref b5, .ref b6, .ref b7, .int (nI kn), .ref b8, .int (nI ln), .ref b9, .ref b10, .ref b11, .ref b12, .ref b13, .ref b14, .int (nI D), .ref b15, .ref b16, .ref b17, .ref b18, .ref b19, .ref b20, .ref b21, .ref b22, .ref b23, .ref b24, .int (nI an), .int f2, .int f3, .int f4, .int f5])), (b1, .inl (kI, 24, .inl bal)), (b5, .inl (kI, 500, .inl ka)), (b6, .inl (kI, 500, .inl kN)), (b7, .inl (kI, 500, .inl kv)), (b9, .inl (kI, 192, .inl oBx)), (b10, .inl (kI, 4000, .inl (upd oAx (500 * D + i) (ka i)))), (b11, .inl (kI, 4000, .inl (upd oNx (500 * D + i) (kN i)))), (b12, .inl (kI, 4000, .inl (upd oVx (500 * D + i) (kv i)))), (b13, .inl (kI, 8, .inl (fun j => nI (oK j)))), (b14, .inl (kI, 8, .inl (fun j => nI (oL j)))), (b16, .inl (kI, 8, .inl (fun j => nI (ht j)))), (b17, .inl (kI, 8, .inl (fun j => nI (pp j)))), (b20, .inl (kI, 8, .inl cr)), (b21, .inl (kI, 8, .inl vv)), (b22, .inl (kI, 8, .inl (fun j => nI (gg j)))), (b23, .inl (kI, 8, .inl (fun j => nI (rc j))))] H := hP
              have hD : va_D A [(m0, .inr (6, [.int f0, .int (nI nA), .ref b1, .ref b2, .ref b3, .ref b4, .ref b5, .ref b6, .ref b7, .int (nI kn), .ref b8, .int (nI ln), .ref b9, .ref b10, .ref b11, .ref b12, .ref b13, .ref b14, .int (nI D), .ref b15, .ref b16, .ref b17, .ref b18, .ref b19, .ref b20, .ref b21, .ref b22, .ref b23, .ref b24, .int (nI an), .int f2, .int f3, .int f4, .int f5])), (b1, .inl (kI, 24, .inl bal)), (b5, .inl (kI, 500, .inl ka)), (b6, .inl (kI, 500, .inl kN)), (b7, .inl (kI, 500, .inl kv)), (b9, .inl (kI, 192, .inl oBx)), (b10, .inl (kI, 4000, .inl (upd oAx (500 * D + i) (ka i)))), (b11, .inl (kI, 4000, .inl (upd oNx (500 * D + i) (kN i)))), (b12, .inl (kI, 4000, .inl (upd oVx (500 * D + i) (kv i)))), (b13, .inl (kI, 8, .inl (fun j => nI (oK j)))), (b14, .inl (kI, 8, .inl (fun j => nI (oL j)))), (b16, .inl (kI, 8, .inl (fun j => nI (ht j)))), (b17, .inl (kI, 8, .inl (fun j => nI (pp j)))), (b20, .inl (kI, 8, .inl cr)), (b21, .inl (kI, 8, .inl vv)), (b22, .inl (kI, 8, .inl (fun j => nI (gg j)))), (b23, .inl (kI, 8, .inl (fun j => nI (rc j))))] := hD
              refine lv_iinc (v := nI (i + 1)) (lv' := [(5, .int (nI (i + 1))), (0, .ref m0), (1, .int (nI fr)), (2, .int (nI ac)), (3, .int v), (4, .int (nI g))]) hx hb dMod_begin_119 hl (k := 5) rfl (nI_1 _) (by decide) rfl (fun ls hl => ?_)
              refine lv_goto (tgt := 41) hx hb dMod_begin_122 (by decide) ?_
              exact ih (i + 1) (upd oAx (500 * D + i) (ka i)) (upd oNx (500 * D + i) (kN i)) (upd oVx (500 * D + i) (kv i)) (by omega) (by omega) (hsA.s rfl) (hsN.s rfl) (hsV.s rfl) _ _ (hP.sub [0, 1, 2, 3, 4, 5, 6, 7, 8, 9, 10, 11, 12, 13, 14, 15, 16] rfl) (hD.sub [0, 1, 2, 3, 4, 5, 6, 7, 8, 9, 10, 11, 12, 13, 14, 15, 16] (by decide) rfl) hS _ (lv_sub hl [1, 2, 3, 4, 5, 0] rfl)
        exact loop41 _ 0 oA oN oV (Nat.lt_succ_self _) (Nat.zero_le _) (mSeg.z) (mSeg.z) (mSeg.z) _ _ (hP.sub [0, 1, 2, 3, 4, 5, 6, 7, 8, 9, 10, 11, 12, 13, 14, 15, 16] rfl) (hD.sub [0, 1, 2, 3, 4, 5, 6, 7, 8, 9, 10, 11, 12, 13, 14, 15, 16] (by decide) rfl) hS _ (lv_sub hl [1, 2, 3, 4, 5, 0] rfl)
      · have c7 : ¬ (24 ≤ i) := fun z9 => c7 ((nI_leI (a := 24) (b := i) (by omega) (by omega)).mpr z9)
        refine lv_aload_n hx hb dMod_begin_10 rfl (lv_at hl 0 rfl) ?_
        refine va_get (D := (dC, dI)) (ci := 6) (v := .ref b9) (C := RMod) (T := TMod) (N := 34) hx hb hts (fun w h => List.mem_cons_of_mem _ (layMod w h)) hown hK hP 0 rfl rfl 12 (by decide) (hts (.fieldLink RMod 35 "CallLedgerModel" "oldBalances" "[I") (List.mem_cons_of_mem _ gw656)) (fun _ h9 => h9) rfl dMod_begin_11 ?_
        refine lv_bipush (v := 24) hx hb dMod_begin_14 (by decide) ?_
        refine lv_aload_n hx hb dMod_begin_16 rfl (lv_at hl 0 rfl) ?_
        refine va_get (D := (dC, dI)) (ci := 6) (v := .int (nI D)) (C := RMod) (T := TMod) (N := 34) hx hb hts (fun w h => List.mem_cons_of_mem _ (layMod w h)) hown hK hP 0 rfl rfl 18 (by decide) (hts (.fieldLink RMod 126 "CallLedgerModel" "depth" "I") (List.mem_cons_of_mem _ gw662)) (fun _ h9 => h9) rfl dMod_begin_17 ?_
        refine lv_imul hx hb dMod_begin_20 ?_
        refine x_topi (y := nI (24 * D)) (x_mul24) ?_
        refine lv_iload hx hb dMod_begin_21 (lv_at hl 5 rfl) ?_
        refine lv_iadd hx hb dMod_begin_23 ?_
        refine x_topi (y := nI (24 * D + i)) (nI_add _ _) ?_
        refine lv_aload_n hx hb dMod_begin_24 rfl (lv_at hl 0 rfl) ?_
        refine va_get (D := (dC, dI)) (ci := 6) (v := .ref b1) (C := RMod) (T := TMod) (N := 34) hx hb hts (fun w h => List.mem_cons_of_mem _ (layMod w h)) hown hK hP 0 rfl rfl 2 (by decide) (hts (.fieldLink RMod 7 "CallLedgerModel" "balances" "[I") (List.mem_cons_of_mem _ gw646)) (fun _ h9 => h9) rfl dMod_begin_25 ?_
        refine lv_iload hx hb dMod_begin_28 (lv_at hl 5 rfl) ?_
        refine x_iald (j := i) hx hb hK hP 1 0 rfl rfl rfl (by omega) (by omega) dMod_begin_30 ?_
        refine x_iast (j := 24 * D + i) hx hb hK hP hD hS 5 0 rfl rfl rfl (by omega) (by omega) dMod_begin_31 (fun H locs hP hD hS => ?_)
        have hP : va_P (dC, dI) xCl [(m0, .inr (6, [.int f0, .int (nI nA), .ref b1, .ref b2, .ref b3, .ref b4, .ref b5, .ref b6, .ref b7, .int (nI kn), .ref b8, .int (nI ln), .ref b9, .ref b10, .ref b11, .ref b12, .ref b13, .ref b14, .int (nI D), .ref b15, .ref b16, .ref b17, .ref b18, .ref b19, .ref b20, .ref b21, .ref b22, .ref b23, .ref b24, .int (nI an), .int f2, .int f3, .int f4, .int f5])), (b1, .inl (kI, 24, .inl bal)), (b5, .inl (kI, 500, .inl ka)), (b6, .inl (kI, 500, .inl kN)), (b7, .inl (kI, 500, .inl kv)), (b9, .inl (kI, 192, .inl (upd oBx (24 * D + i) (bal i)))), (b10, .inl (kI, 4000, .inl oA)), (b11, .inl (kI, 4000, .inl oN)), (b12, .inl (kI, 4000, .inl oV)), (b13, .inl (kI, 8, .inl (fun j => nI (oK j)))), (b14, .inl (kI, 8, .inl (fun j => nI (oL j)))), (b16, .inl (kI, 8, .inl (fun j => nI (ht j)))), (b17, .inl (kI, 8, .inl (fun j => nI (pp j)))), (b20, .inl (kI, 8, .inl cr)), (b21, .inl (kI, 8, .inl vv)), (b22, .inl (kI, 8, .inl (fun j => nI (gg j)))), (b23, .inl (kI, 8, .inl (fun j => nI (rc j))))] H := hP
        have hD : va_D A [(m0, .inr (6, [.int f0, .int (nI nA), .ref b1, .ref b2, .ref b3, .ref b4, .ref b5, .ref b6, .ref b7, .int (nI kn), .ref b8, .int (nI ln), .ref b9, .ref b10, .ref b11, .ref b12, .ref b13, .ref b14, .int (nI D), .ref b15, .ref b16, .ref b17, .ref b18, .ref b19, .ref b20, .ref b21, .ref b22, .ref b23, .ref b24, .int (nI an), .int f2, .int f3, .int f4, .int f5])), (b1, .inl (kI, 24, .inl bal)), (b5, .inl (kI, 500, .inl ka)), (b6, .inl (kI, 500, .inl kN)), (b7, .inl (kI, 500, .inl kv)), (b9, .inl (kI, 192, .inl (upd oBx (24 * D + i) (bal i)))), (b10, .inl (kI, 4000, .inl oA)), (b11, .inl (kI, 4000, .inl oN)), (b12, .inl (kI, 4000, .inl oV)), (b13, .inl (kI, 8, .inl (fun j => nI (oK j)))), (b14, .inl (kI, 8, .inl (fun j => nI (oL j)))), (b16, .inl (kI, 8, .inl (fun j => nI (ht j)))), (b17, .inl (kI, 8, .inl (fun j => nI (pp j)))), (b20, .inl (kI, 8, .inl cr)), (b21, .inl (kI, 8, .inl vv)), (b22, .inl (kI, 8, .inl (fun j => nI (gg j)))), (b23, .inl (kI, 8, .inl (fun j => nI (rc j))))] := hD
        refine lv_iinc (v := nI (i + 1)) (lv' := [(5, .int (nI (i + 1))), (0, .ref m0), (1, .int (nI fr)), (2, .int (nI ac)), (3, .int v), (4, .int (nI g))]) hx hb dMod_begin_32 hl (k := 5) rfl (nI_1 _) (by decide) rfl (fun ls hl => ?_)
        refine lv_goto (tgt := 3) hx hb dMod_begin_35 (by decide) ?_
        exact ih (i + 1) (upd oBx (24 * D + i) (bal i)) (by omega) (by omega) (hsB.s rfl) _ _ (hP.sub [0, 1, 2, 3, 4, 5, 6, 7, 8, 9, 10, 11, 12, 13, 14, 15, 16] rfl) (hD.sub [0, 1, 2, 3, 4, 5, 6, 7, 8, 9, 10, 11, 12, 13, 14, 15, 16] (by decide) rfl) hS _ (lv_sub hl [1, 2, 3, 4, 5, 0] rfl)
  exact loop3 _ 0 oB (Nat.lt_succ_self _) (by omega) (mSeg.z) _ _ (hP.sub [0, 1, 2, 3, 4, 5, 6, 7, 8, 9, 10, 11, 12, 13, 14, 15, 16] rfl) (hD.sub [0, 1, 2, 3, 4, 5, 6, 7, 8, 9, 10, 11, 12, 13, 14, 15, 16] (by decide) rfl) hS _ (lv_sub hl [1, 2, 3, 4, 5, 0] rfl)

