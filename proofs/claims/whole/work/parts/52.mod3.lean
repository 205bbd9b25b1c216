theorem dMod_undo_0 : decode cMod_undo 0 = .ok (.iconst 0, 1) := by decide +kernel
theorem dMod_undo_1 : decode cMod_undo 1 = .ok (.istore_n 1, 1) := by decide +kernel
theorem dMod_undo_2 : decode cMod_undo 2 = .ok (.iload_n 1, 1) := by decide +kernel
theorem dMod_undo_3 : decode cMod_undo 3 = .ok (.bipush 24, 2) := by decide +kernel
theorem dMod_undo_5 : decode cMod_undo 5 = .ok (.if_icmp .ge 29, 3) := by decide +kernel
theorem dMod_undo_8 : decode cMod_undo 8 = .ok (.aload_n 0, 1) := by decide +kernel
theorem dMod_undo_9 : decode cMod_undo 9 = .ok (.getfield 7, 3) := by decide +kernel
theorem dMod_undo_12 : decode cMod_undo 12 = .ok (.iload_n 1, 1) := by decide +kernel
theorem dMod_undo_13 : decode cMod_undo 13 = .ok (.aload_n 0, 1) := by decide +kernel
theorem dMod_undo_14 : decode cMod_undo 14 = .ok (.getfield 35, 3) := by decide +kernel
theorem dMod_undo_17 : decode cMod_undo 17 = .ok (.bipush 24, 2) := by decide +kernel
theorem dMod_undo_19 : decode cMod_undo 19 = .ok (.aload_n 0, 1) := by decide +kernel
theorem dMod_undo_20 : decode cMod_undo 20 = .ok (.getfield 126, 3) := by decide +kernel
theorem dMod_undo_23 : decode cMod_undo 23 = .ok (.imul, 1) := by decide +kernel
theorem dMod_undo_24 : decode cMod_undo 24 = .ok (.iload_n 1, 1) := by decide +kernel
theorem dMod_undo_25 : decode cMod_undo 25 = .ok (.iadd, 1) := by decide +kernel
theorem dMod_undo_26 : decode cMod_undo 26 = .ok (.iaload, 1) := by decide +kernel
theorem dMod_undo_27 : decode cMod_undo 27 = .ok (.iastore, 1) := by decide +kernel
theorem dMod_undo_28 : decode cMod_undo 28 = .ok (.iinc 1 1, 3) := by decide +kernel
theorem dMod_undo_31 : decode cMod_undo 31 = .ok (.goto (-29), 3) := by decide +kernel
theorem dMod_undo_34 : decode cMod_undo 34 = .ok (.aload_n 0, 1) := by decide +kernel
theorem dMod_undo_35 : decode cMod_undo 35 = .ok (.aload_n 0, 1) := by decide +kernel
theorem dMod_undo_36 : decode cMod_undo 36 = .ok (.getfield 47, 3) := by decide +kernel
theorem dMod_undo_39 : decode cMod_undo 39 = .ok (.aload_n 0, 1) := by decide +kernel
theorem dMod_undo_40 : decode cMod_undo 40 = .ok (.getfield 126, 3) := by decide +kernel
theorem dMod_undo_43 : decode cMod_undo 43 = .ok (.iaload, 1) := by decide +kernel
theorem dMod_undo_44 : decode cMod_undo 44 = .ok (.putfield 107, 3) := by decide +kernel
theorem dMod_undo_47 : decode cMod_undo 47 = .ok (.aload_n 0, 1) := by decide +kernel
theorem dMod_undo_48 : decode cMod_undo 48 = .ok (.aload_n 0, 1) := by decide +kernel
theorem dMod_undo_49 : decode cMod_undo 49 = .ok (.getfield 50, 3) := by decide +kernel
theorem dMod_undo_52 : decode cMod_undo 52 = .ok (.aload_n 0, 1) := by decide +kernel
theorem dMod_undo_53 : decode cMod_undo 53 = .ok (.getfield 126, 3) := by decide +kernel
theorem dMod_undo_56 : decode cMod_undo 56 = .ok (.iaload, 1) := by decide +kernel
theorem dMod_undo_57 : decode cMod_undo 57 = .ok (.putfield 117, 3) := by decide +kernel
theorem dMod_undo_60 : decode cMod_undo 60 = .ok (.iconst 0, 1) := by decide +kernel
theorem dMod_undo_61 : decode cMod_undo 61 = .ok (.istore_n 1, 1) := by decide +kernel
theorem dMod_undo_62 : decode cMod_undo 62 = .ok (.iload_n 1, 1) := by decide +kernel
theorem dMod_undo_63 : decode cMod_undo 63 = .ok (.aload_n 0, 1) := by decide +kernel
theorem dMod_undo_64 : decode cMod_undo 64 = .ok (.getfield 107, 3) := by decide +kernel
theorem dMod_undo_67 : decode cMod_undo 67 = .ok (.if_icmp .ge 72, 3) := by decide +kernel
theorem dMod_undo_70 : decode cMod_undo 70 = .ok (.aload_n 0, 1) := by decide +kernel
theorem dMod_undo_71 : decode cMod_undo 71 = .ok (.getfield 23, 3) := by decide +kernel
theorem dMod_undo_74 : decode cMod_undo 74 = .ok (.iload_n 1, 1) := by decide +kernel
theorem dMod_undo_75 : decode cMod_undo 75 = .ok (.aload_n 0, 1) := by decide +kernel
theorem dMod_undo_76 : decode cMod_undo 76 = .ok (.getfield 38, 3) := by decide +kernel
theorem dMod_undo_79 : decode cMod_undo 79 = .ok (.sipush 500, 3) := by decide +kernel
theorem dMod_undo_82 : decode cMod_undo 82 = .ok (.aload_n 0, 1) := by decide +kernel
theorem dMod_undo_83 : decode cMod_undo 83 = .ok (.getfield 126, 3) := by decide +kernel
theorem dMod_undo_86 : decode cMod_undo 86 = .ok (.imul, 1) := by decide +kernel
theorem dMod_undo_87 : decode cMod_undo 87 = .ok (.iload_n 1, 1) := by decide +kernel
theorem dMod_undo_88 : decode cMod_undo 88 = .ok (.iadd, 1) := by decide +kernel
theorem dMod_undo_89 : decode cMod_undo 89 = .ok (.iaload, 1) := by decide +kernel
theorem dMod_undo_90 : decode cMod_undo 90 = .ok (.iastore, 1) := by decide +kernel
theorem dMod_undo_91 : decode cMod_undo 91 = .ok (.aload_n 0, 1) := by decide +kernel
theorem dMod_undo_92 : decode cMod_undo 92 = .ok (.getfield 26, 3) := by decide +kernel
theorem dMod_undo_95 : decode cMod_undo 95 = .ok (.iload_n 1, 1) := by decide +kernel
theorem dMod_undo_96 : decode cMod_undo 96 = .ok (.aload_n 0, 1) := by decide +kernel
theorem dMod_undo_97 : decode cMod_undo 97 = .ok (.getfield 41, 3) := by decide +kernel
theorem dMod_undo_100 : decode cMod_undo 100 = .ok (.sipush 500, 3) := by decide +kernel
theorem dMod_undo_103 : decode cMod_undo 103 = .ok (.aload_n 0, 1) := by decide +kernel
theorem dMod_undo_104 : decode cMod_undo 104 = .ok (.getfield 126, 3) := by decide +kernel
theorem dMod_undo_107 : decode cMod_undo 107 = .ok (.imul, 1) := by decide +kernel
theorem dMod_undo_108 : decode cMod_undo 108 = .ok (.iload_n 1, 1) := by decide +kernel
theorem dMod_undo_109 : decode cMod_undo 109 = .ok (.iadd, 1) := by decide +kernel
theorem dMod_undo_110 : decode cMod_undo 110 = .ok (.iaload, 1) := by decide +kernel
theorem dMod_undo_111 : decode cMod_undo 111 = .ok (.iastore, 1) := by decide +kernel
theorem dMod_undo_112 : decode cMod_undo 112 = .ok (.aload_n 0, 1) := by decide +kernel
theorem dMod_undo_113 : decode cMod_undo 113 = .ok (.getfield 29, 3) := by decide +kernel
theorem dMod_undo_116 : decode cMod_undo 116 = .ok (.iload_n 1, 1) := by decide +kernel
theorem dMod_undo_117 : decode cMod_undo 117 = .ok (.aload_n 0, 1) := by decide +kernel
theorem dMod_undo_118 : decode cMod_undo 118 = .ok (.getfield 44, 3) := by decide +kernel
theorem dMod_undo_121 : decode cMod_undo 121 = .ok (.sipush 500, 3) := by decide +kernel
theorem dMod_undo_124 : decode cMod_undo 124 = .ok (.aload_n 0, 1) := by decide +kernel
theorem dMod_undo_125 : decode cMod_undo 125 = .ok (.getfield 126, 3) := by decide +kernel
theorem dMod_undo_128 : decode cMod_undo 128 = .ok (.imul, 1) := by decide +kernel
theorem dMod_undo_129 : decode cMod_undo 129 = .ok (.iload_n 1, 1) := by decide +kernel
theorem dMod_undo_130 : decode cMod_undo 130 = .ok (.iadd, 1) := by decide +kernel
theorem dMod_undo_131 : decode cMod_undo 131 = .ok (.iaload, 1) := by decide +kernel
theorem dMod_undo_132 : decode cMod_undo 132 = .ok (.iastore, 1) := by decide +kernel
theorem dMod_undo_133 : decode cMod_undo 133 = .ok (.iinc 1 1, 3) := by decide +kernel
theorem dMod_undo_136 : decode cMod_undo 136 = .ok (.goto (-74), 3) := by decide +kernel
theorem dMod_undo_139 : decode cMod_undo 139 = .ok (.return_, 1) := by decide +kernel
theorem dMod_push_0 : decode cMod_push 0 = .ok (.aload_n 0, 1) := by decide +kernel
theorem dMod_push_1 : decode cMod_push 1 = .ok (.getfield 53, 3) := by decide +kernel
theorem dMod_push_4 : decode cMod_push 4 = .ok (.bipush 32, 2) := by decide +kernel
theorem dMod_push_6 : decode cMod_push 6 = .ok (.aload_n 0, 1) := by decide +kernel
theorem dMod_push_7 : decode cMod_push 7 = .ok (.getfield 126, 3) := by decide +kernel
theorem dMod_push_10 : decode cMod_push 10 = .ok (.imul, 1) := by decide +kernel
theorem dMod_push_11 : decode cMod_push 11 = .ok (.aload_n 0, 1) := by decide +kernel
theorem dMod_push_12 : decode cMod_push 12 = .ok (.getfield 56, 3) := by decide +kernel
theorem dMod_push_15 : decode cMod_push 15 = .ok (.aload_n 0, 1) := by decide +kernel
theorem dMod_push_16 : decode cMod_push 16 = .ok (.getfield 126, 3) := by decide +kernel
theorem dMod_push_19 : decode cMod_push 19 = .ok (.iaload, 1) := by decide +kernel
theorem dMod_push_20 : decode cMod_push 20 = .ok (.iadd, 1) := by decide +kernel
theorem dMod_push_21 : decode cMod_push 21 = .ok (.iload_n 1, 1) := by decide +kernel
theorem dMod_push_22 : decode cMod_push 22 = .ok (.iastore, 1) := by decide +kernel
theorem dMod_push_23 : decode cMod_push 23 = .ok (.aload_n 0, 1) := by decide +kernel
theorem dMod_push_24 : decode cMod_push 24 = .ok (.getfield 56, 3) := by decide +kernel
theorem dMod_push_27 : decode cMod_push 27 = .ok (.aload_n 0, 1) := by decide +kernel
theorem dMod_push_28 : decode cMod_push 28 = .ok (.getfield 126, 3) := by decide +kernel
theorem dMod_push_31 : decode cMod_push 31 = .ok (.dup2, 1) := by decide +kernel
theorem dMod_push_32 : decode cMod_push 32 = .ok (.iaload, 1) := by decide +kernel
theorem dMod_push_33 : decode cMod_push 33 = .ok (.iconst 1, 1) := by decide +kernel
theorem dMod_push_34 : decode cMod_push 34 = .ok (.iadd, 1) := by decide +kernel
theorem dMod_push_35 : decode cMod_push 35 = .ok (.iastore, 1) := by decide +kernel
theorem dMod_push_36 : decode cMod_push 36 = .ok (.return_, 1) := by decide +kernel
theorem dMod_pop_0 : decode cMod_pop 0 = .ok (.aload_n 0, 1) := by decide +kernel
theorem dMod_pop_1 : decode cMod_pop 1 = .ok (.getfield 56, 3) := by decide +kernel
theorem dMod_pop_4 : decode cMod_pop 4 = .ok (.aload_n 0, 1) := by decide +kernel
theorem dMod_pop_5 : decode cMod_pop 5 = .ok (.getfield 126, 3) := by decide +kernel
theorem dMod_pop_8 : decode cMod_pop 8 = .ok (.dup2, 1) := by decide +kernel
theorem dMod_pop_9 : decode cMod_pop 9 = .ok (.iaload, 1) := by decide +kernel
theorem dMod_pop_10 : decode cMod_pop 10 = .ok (.iconst 1, 1) := by decide +kernel
theorem dMod_pop_11 : decode cMod_pop 11 = .ok (.isub, 1) := by decide +kernel
theorem dMod_pop_12 : decode cMod_pop 12 = .ok (.iastore, 1) := by decide +kernel
theorem dMod_pop_13 : decode cMod_pop 13 = .ok (.aload_n 0, 1) := by decide +kernel
theorem dMod_pop_14 : decode cMod_pop 14 = .ok (.getfield 53, 3) := by decide +kernel
theorem dMod_pop_17 : decode cMod_pop 17 = .ok (.bipush 32, 2) := by decide +kernel
theorem dMod_pop_19 : decode cMod_pop 19 = .ok (.aload_n 0, 1) := by decide +kernel
theorem dMod_pop_20 : decode cMod_pop 20 = .ok (.getfield 126, 3) := by decide +kernel
theorem dMod_pop_23 : decode cMod_pop 23 = .ok (.imul, 1) := by decide +kernel
theorem dMod_pop_24 : decode cMod_pop 24 = .ok (.aload_n 0, 1) := by decide +kernel
theorem dMod_pop_25 : decode cMod_pop 25 = .ok (.getfield 56, 3) := by decide +kernel
theorem dMod_pop_28 : decode cMod_pop 28 = .ok (.aload_n 0, 1) := by decide +kernel
theorem dMod_pop_29 : decode cMod_pop 29 = .ok (.getfield 126, 3) := by decide +kernel
theorem dMod_pop_32 : decode cMod_pop 32 = .ok (.iaload, 1) := by decide +kernel
theorem dMod_pop_33 : decode cMod_pop 33 = .ok (.iadd, 1) := by decide +kernel
theorem dMod_pop_34 : decode cMod_pop 34 = .ok (.iaload, 1) := by decide +kernel
theorem dMod_pop_35 : decode cMod_pop 35 = .ok (.ireturn, 1) := by decide +kernel
theorem dMod_below_0 : decode cMod_below 0 = .ok (.aload_n 0, 1) := by decide +kernel
theorem dMod_below_1 : decode cMod_below 1 = .ok (.getfield 53, 3) := by decide +kernel
theorem dMod_below_4 : decode cMod_below 4 = .ok (.bipush 32, 2) := by decide +kernel
theorem dMod_below_6 : decode cMod_below 6 = .ok (.aload_n 0, 1) := by decide +kernel
theorem dMod_below_7 : decode cMod_below 7 = .ok (.getfield 126, 3) := by decide +kernel
theorem dMod_below_10 : decode cMod_below 10 = .ok (.imul, 1) := by decide +kernel
theorem dMod_below_11 : decode cMod_below 11 = .ok (.aload_n 0, 1) := by decide +kernel
theorem dMod_below_12 : decode cMod_below 12 = .ok (.getfield 56, 3) := by decide +kernel
theorem dMod_below_15 : decode cMod_below 15 = .ok (.aload_n 0, 1) := by decide +kernel
theorem dMod_below_16 : decode cMod_below 16 = .ok (.getfield 126, 3) := by decide +kernel
theorem dMod_below_19 : decode cMod_below 19 = .ok (.iaload, 1) := by decide +kernel
theorem dMod_below_20 : decode cMod_below 20 = .ok (.iadd, 1) := by decide +kernel
theorem dMod_below_21 : decode cMod_below 21 = .ok (.iconst 1, 1) := by decide +kernel
theorem dMod_below_22 : decode cMod_below 22 = .ok (.isub, 1) := by decide +kernel
theorem dMod_below_23 : decode cMod_below 23 = .ok (.iload_n 1, 1) := by decide +kernel
theorem dMod_below_24 : decode cMod_below 24 = .ok (.isub, 1) := by decide +kernel
theorem dMod_below_25 : decode cMod_below 25 = .ok (.iaload, 1) := by decide +kernel
theorem dMod_below_26 : decode cMod_below 26 = .ok (.ireturn, 1) := by decide +kernel
theorem dMod_swap_0 : decode cMod_swap 0 = .ok (.bipush 32, 2) := by decide +kernel
theorem dMod_swap_2 : decode cMod_swap 2 = .ok (.aload_n 0, 1) := by decide +kernel
theorem dMod_swap_3 : decode cMod_swap 3 = .ok (.getfield 126, 3) := by decide +kernel
theorem dMod_swap_6 : decode cMod_swap 6 = .ok (.imul, 1) := by decide +kernel
theorem dMod_swap_7 : decode cMod_swap 7 = .ok (.aload_n 0, 1) := by decide +kernel
theorem dMod_swap_8 : decode cMod_swap 8 = .ok (.getfield 56, 3) := by decide +kernel
theorem dMod_swap_11 : decode cMod_swap 11 = .ok (.aload_n 0, 1) := by decide +kernel
theorem dMod_swap_12 : decode cMod_swap 12 = .ok (.getfield 126, 3) := by decide +kernel
theorem dMod_swap_15 : decode cMod_swap 15 = .ok (.iaload, 1) := by decide +kernel
theorem dMod_swap_16 : decode cMod_swap 16 = .ok (.iadd, 1) := by decide +kernel
theorem dMod_swap_17 : decode cMod_swap 17 = .ok (.iconst 1, 1) := by decide +kernel
theorem dMod_swap_18 : decode cMod_swap 18 = .ok (.isub, 1) := by decide +kernel
theorem dMod_swap_19 : decode cMod_swap 19 = .ok (.istore_n 2, 1) := by decide +kernel
theorem dMod_swap_20 : decode cMod_swap 20 = .ok (.aload_n 0, 1) := by decide +kernel
theorem dMod_swap_21 : decode cMod_swap 21 = .ok (.getfield 53, 3) := by decide +kernel
theorem dMod_swap_24 : decode cMod_swap 24 = .ok (.iload_n 2, 1) := by decide +kernel
theorem dMod_swap_25 : decode cMod_swap 25 = .ok (.iaload, 1) := by decide +kernel
theorem dMod_swap_26 : decode cMod_swap 26 = .ok (.istore_n 3, 1) := by decide +kernel
theorem dMod_swap_27 : decode cMod_swap 27 = .ok (.aload_n 0, 1) := by decide +kernel
theorem dMod_swap_28 : decode cMod_swap 28 = .ok (.getfield 53, 3) := by decide +kernel
theorem dMod_swap_31 : decode cMod_swap 31 = .ok (.iload_n 2, 1) := by decide +kernel
theorem dMod_swap_32 : decode cMod_swap 32 = .ok (.aload_n 0, 1) := by decide +kernel
theorem dMod_swap_33 : decode cMod_swap 33 = .ok (.getfield 53, 3) := by decide +kernel
theorem dMod_swap_36 : decode cMod_swap 36 = .ok (.iload_n 2, 1) := by decide +kernel
theorem dMod_swap_37 : decode cMod_swap 37 = .ok (.iload_n 1, 1) := by decide +kernel
theorem dMod_swap_38 : decode cMod_swap 38 = .ok (.isub, 1) := by decide +kernel
theorem dMod_swap_39 : decode cMod_swap 39 = .ok (.iaload, 1) := by decide +kernel
theorem dMod_swap_40 : decode cMod_swap 40 = .ok (.iastore, 1) := by decide +kernel
theorem dMod_swap_41 : decode cMod_swap 41 = .ok (.aload_n 0, 1) := by decide +kernel
theorem dMod_swap_42 : decode cMod_swap 42 = .ok (.getfield 53, 3) := by decide +kernel
theorem dMod_swap_45 : decode cMod_swap 45 = .ok (.iload_n 2, 1) := by decide +kernel
theorem dMod_swap_46 : decode cMod_swap 46 = .ok (.iload_n 1, 1) := by decide +kernel
theorem dMod_swap_47 : decode cMod_swap 47 = .ok (.isub, 1) := by decide +kernel
theorem dMod_swap_48 : decode cMod_swap 48 = .ok (.iload_n 3, 1) := by decide +kernel
theorem dMod_swap_49 : decode cMod_swap 49 = .ok (.iastore, 1) := by decide +kernel
theorem dMod_swap_50 : decode cMod_swap 50 = .ok (.return_, 1) := by decide +kernel
theorem dMod_end_0 : decode cMod_end 0 = .ok (.iload_n 1, 1) := by decide +kernel
theorem dMod_end_1 : decode cMod_end 1 = .ok (.ifCond .le 7, 3) := by decide +kernel
theorem dMod_end_4 : decode cMod_end 4 = .ok (.aload_n 0, 1) := by decide +kernel
theorem dMod_end_5 : decode cMod_end 5 = .ok (.invokevirtual 129, 3) := by decide +kernel
theorem dMod_end_8 : decode cMod_end 8 = .ok (.iload_n 1, 1) := by decide +kernel
theorem dMod_end_9 : decode cMod_end 9 = .ok (.iconst 1, 1) := by decide +kernel
theorem dMod_end_10 : decode cMod_end 10 = .ok (.if_icmp .le 7, 3) := by decide +kernel
theorem dMod_end_13 : decode cMod_end 13 = .ok (.iconst 0, 1) := by decide +kernel
theorem dMod_end_14 : decode cMod_end 14 = .ok (.goto 12, 3) := by decide +kernel
theorem dMod_end_17 : decode cMod_end 17 = .ok (.aload_n 0, 1) := by decide +kernel
theorem dMod_end_18 : decode cMod_end 18 = .ok (.getfield 74, 3) := by decide +kernel
theorem dMod_end_21 : decode cMod_end 21 = .ok (.aload_n 0, 1) := by decide +kernel
theorem dMod_end_22 : decode cMod_end 22 = .ok (.getfield 126, 3) := by decide +kernel
theorem dMod_end_25 : decode cMod_end 25 = .ok (.iaload, 1) := by decide +kernel
theorem dMod_end_26 : decode cMod_end 26 = .ok (.istore_n 3, 1) := by decide +kernel
theorem dMod_end_27 : decode cMod_end 27 = .ok (.iload_n 1, 1) := by decide +kernel
theorem dMod_end_28 : decode cMod_end 28 = .ok (.iconst 1, 1) := by decide +kernel
theorem dMod_end_29 : decode cMod_end 29 = .ok (.if_icmp .le 7, 3) := by decide +kernel
theorem dMod_end_32 : decode cMod_end 32 = .ok (.iconst 0, 1) := by decide +kernel
theorem dMod_end_33 : decode cMod_end 33 = .ok (.goto 4, 3) := by decide +kernel
theorem dMod_end_36 : decode cMod_end 36 = .ok (.iload_n 2, 1) := by decide +kernel
theorem dMod_end_37 : decode cMod_end 37 = .ok (.istore 4, 2) := by decide +kernel
theorem dMod_end_39 : decode cMod_end 39 = .ok (.aload_n 0, 1) := by decide +kernel
theorem dMod_end_40 : decode cMod_end 40 = .ok (.getfield 126, 3) := by decide +kernel
theorem dMod_end_43 : decode cMod_end 43 = .ok (.ifCond .ne 25, 3) := by decide +kernel
theorem dMod_end_46 : decode cMod_end 46 = .ok (.aload_n 0, 1) := by decide +kernel
theorem dMod_end_47 : decode cMod_end 47 = .ok (.iload_n 1, 1) := by decide +kernel
theorem dMod_end_48 : decode cMod_end 48 = .ok (.putfield 132, 3) := by decide +kernel
theorem dMod_end_51 : decode cMod_end 51 = .ok (.aload_n 0, 1) := by decide +kernel
theorem dMod_end_52 : decode cMod_end 52 = .ok (.iload 4, 2) := by decide +kernel
theorem dMod_end_54 : decode cMod_end 54 = .ok (.putfield 123, 3) := by decide +kernel
theorem dMod_end_57 : decode cMod_end 57 = .ok (.aload_n 0, 1) := by decide +kernel
theorem dMod_end_58 : decode cMod_end 58 = .ok (.iload_n 3, 1) := by decide +kernel
theorem dMod_end_59 : decode cMod_end 59 = .ok (.putfield 135, 3) := by decide +kernel
theorem dMod_end_62 : decode cMod_end 62 = .ok (.aload_n 0, 1) := by decide +kernel
theorem dMod_end_63 : decode cMod_end 63 = .ok (.iconst (-1), 1) := by decide +kernel
theorem dMod_end_64 : decode cMod_end 64 = .ok (.putfield 126, 3) := by decide +kernel
theorem dMod_end_67 : decode cMod_end 67 = .ok (.return_, 1) := by decide +kernel
theorem dMod_end_68 : decode cMod_end 68 = .ok (.aload_n 0, 1) := by decide +kernel
theorem dMod_end_69 : decode cMod_end 69 = .ok (.dup, 1) := by decide +kernel
theorem dMod_end_70 : decode cMod_end 70 = .ok (.getfield 126, 3) := by decide +kernel
theorem dMod_end_73 : decode cMod_end 73 = .ok (.iconst 1, 1) := by decide +kernel
theorem dMod_end_74 : decode cMod_end 74 = .ok (.isub, 1) := by decide +kernel
theorem dMod_end_75 : decode cMod_end 75 = .ok (.putfield 126, 3) := by decide +kernel
theorem dMod_end_78 : decode cMod_end 78 = .ok (.aload_n 0, 1) := by decide +kernel
theorem dMod_end_79 : decode cMod_end 79 = .ok (.getfield 74, 3) := by decide +kernel
theorem dMod_end_82 : decode cMod_end 82 = .ok (.aload_n 0, 1) := by decide +kernel
theorem dMod_end_83 : decode cMod_end 83 = .ok (.getfield 126, 3) := by decide +kernel
theorem dMod_end_86 : decode cMod_end 86 = .ok (.aload_n 0, 1) := by decide +kernel
theorem dMod_end_87 : decode cMod_end 87 = .ok (.getfield 74, 3) := by decide +kernel
theorem dMod_end_90 : decode cMod_end 90 = .ok (.aload_n 0, 1) := by decide +kernel
theorem dMod_end_91 : decode cMod_end 91 = .ok (.getfield 126, 3) := by decide +kernel
theorem dMod_end_94 : decode cMod_end 94 = .ok (.iaload, 1) := by decide +kernel
theorem dMod_end_95 : decode cMod_end 95 = .ok (.iload_n 3, 1) := by decide +kernel
theorem dMod_end_96 : decode cMod_end 96 = .ok (.iadd, 1) := by decide +kernel
theorem dMod_end_97 : decode cMod_end 97 = .ok (.iastore, 1) := by decide +kernel
theorem dMod_end_98 : decode cMod_end 98 = .ok (.aload_n 0, 1) := by decide +kernel
theorem dMod_end_99 : decode cMod_end 99 = .ok (.iload 4, 2) := by decide +kernel
theorem dMod_end_101 : decode cMod_end 101 = .ok (.invokevirtual 138, 3) := by decide +kernel
theorem dMod_end_104 : decode cMod_end 104 = .ok (.aload_n 0, 1) := by decide +kernel
theorem dMod_end_105 : decode cMod_end 105 = .ok (.iload_n 1, 1) := by decide +kernel
theorem dMod_end_106 : decode cMod_end 106 = .ok (.ifCond .ne 7, 3) := by decide +kernel
theorem dMod_end_109 : decode cMod_end 109 = .ok (.iconst 1, 1) := by decide +kernel
theorem dMod_end_110 : decode cMod_end 110 = .ok (.goto 4, 3) := by decide +kernel
theorem dMod_end_113 : decode cMod_end 113 = .ok (.iconst 0, 1) := by decide +kernel
theorem dMod_end_114 : decode cMod_end 114 = .ok (.invokevirtual 138, 3) := by decide +kernel
theorem dMod_end_117 : decode cMod_end 117 = .ok (.aload_n 0, 1) := by decide +kernel
theorem dMod_end_118 : decode cMod_end 118 = .ok (.getfield 59, 3) := by decide +kernel
theorem dMod_end_121 : decode cMod_end 121 = .ok (.aload_n 0, 1) := by decide +kernel
theorem dMod_end_122 : decode cMod_end 122 = .ok (.getfield 126, 3) := by decide +kernel
theorem dMod_end_125 : decode cMod_end 125 = .ok (.dup2, 1) := by decide +kernel
theorem dMod_end_126 : decode cMod_end 126 = .ok (.iaload, 1) := by decide +kernel
theorem dMod_end_127 : decode cMod_end 127 = .ok (.iconst 1, 1) := by decide +kernel
theorem dMod_end_128 : decode cMod_end 128 = .ok (.iadd, 1) := by decide +kernel
theorem dMod_end_129 : decode cMod_end 129 = .ok (.iastore, 1) := by decide +kernel
theorem dMod_end_130 : decode cMod_end 130 = .ok (.return_, 1) := by decide +kernel
theorem dMod_priceOf_0 : decode cMod_priceOf 0 = .ok (.iload_n 0, 1) := by decide +kernel
theorem dMod_priceOf_1 : decode cMod_priceOf 1 = .ok (.tableswitch 103 7 25 #[91, 93, 93, 103, 103, 103, 103, 103, 103, 91, 91, 100, 103, 103, 103, 103, 103, 95, 97], 91) := by decide +kernel
theorem dMod_priceOf_92 : decode cMod_priceOf 92 = .ok (.iconst 2, 1) := by decide +kernel
theorem dMod_priceOf_93 : decode cMod_priceOf 93 = .ok (.ireturn, 1) := by decide +kernel
theorem dMod_priceOf_94 : decode cMod_priceOf 94 = .ok (.iconst 3, 1) := by decide +kernel
theorem dMod_priceOf_95 : decode cMod_priceOf 95 = .ok (.ireturn, 1) := by decide +kernel
theorem dMod_priceOf_96 : decode cMod_priceOf 96 = .ok (.iconst 5, 1) := by decide +kernel
theorem dMod_priceOf_97 : decode cMod_priceOf 97 = .ok (.ireturn, 1) := by decide +kernel
theorem dMod_priceOf_98 : decode cMod_priceOf 98 = .ok (.bipush 8, 2) := by decide +kernel
theorem dMod_priceOf_100 : decode cMod_priceOf 100 = .ok (.ireturn, 1) := by decide +kernel
theorem dMod_priceOf_101 : decode cMod_priceOf 101 = .ok (.bipush 10, 2) := by decide +kernel
theorem dMod_priceOf_103 : decode cMod_priceOf 103 = .ok (.ireturn, 1) := by decide +kernel
theorem dMod_priceOf_104 : decode cMod_priceOf 104 = .ok (.iconst 1, 1) := by decide +kernel
theorem dMod_priceOf_105 : decode cMod_priceOf 105 = .ok (.ireturn, 1) := by decide +kernel
theorem dMod_needs_0 : decode cMod_needs 0 = .ok (.iload_n 0, 1) := by decide +kernel
theorem dMod_needs_1 : decode cMod_needs 1 = .ok (.tableswitch 147 0 29 #[135, 135, 141, 137, 137, 147, 147, 147, 147, 147, 147, 147, 141, 147, 147, 147, 135, 141, 141, 147, 141, 135, 135, 135, 141, 141, 141, 143, 135, 141], 135) := by decide +kernel
theorem dMod_needs_136 : decode cMod_needs 136 = .ok (.iconst 0, 1) := by decide +kernel
theorem dMod_needs_137 : decode cMod_needs 137 = .ok (.ireturn, 1) := by decide +kernel
theorem dMod_needs_138 : decode cMod_needs 138 = .ok (.iload_n 1, 1) := by decide +kernel
theorem dMod_needs_139 : decode cMod_needs 139 = .ok (.iconst 1, 1) := by decide +kernel
theorem dMod_needs_140 : decode cMod_needs 140 = .ok (.iadd, 1) := by decide +kernel
theorem dMod_needs_141 : decode cMod_needs 141 = .ok (.ireturn, 1) := by decide +kernel
theorem dMod_needs_142 : decode cMod_needs 142 = .ok (.iconst 1, 1) := by decide +kernel
theorem dMod_needs_143 : decode cMod_needs 143 = .ok (.ireturn, 1) := by decide +kernel
theorem dMod_needs_144 : decode cMod_needs 144 = .ok (.iload_n 1, 1) := by decide +kernel
theorem dMod_needs_145 : decode cMod_needs 145 = .ok (.iconst 3, 1) := by decide +kernel
theorem dMod_needs_146 : decode cMod_needs 146 = .ok (.iadd, 1) := by decide +kernel
theorem dMod_needs_147 : decode cMod_needs 147 = .ok (.ireturn, 1) := by decide +kernel
theorem dMod_needs_148 : decode cMod_needs 148 = .ok (.iconst 2, 1) := by decide +kernel
theorem dMod_needs_149 : decode cMod_needs 149 = .ok (.ireturn, 1) := by decide +kernel
theorem dMod_leaves_0 : decode cMod_leaves 0 = .ok (.iload_n 0, 1) := by decide +kernel
theorem dMod_leaves_1 : decode cMod_leaves 1 = .ok (.tableswitch 147 0 29 #[135, 147, 135, 137, 141, 147, 147, 147, 147, 147, 147, 147, 147, 147, 147, 147, 135, 135, 147, 135, 147, 147, 147, 147, 147, 135, 135, 145, 147, 135], 135) := by decide +kernel
theorem dMod_leaves_136 : decode cMod_leaves 136 = .ok (.iconst 0, 1) := by decide +kernel
theorem dMod_leaves_137 : decode cMod_leaves 137 = .ok (.ireturn, 1) := by decide +kernel
theorem dMod_leaves_138 : decode cMod_leaves 138 = .ok (.iload_n 1, 1) := by decide +kernel
theorem dMod_leaves_139 : decode cMod_leaves 139 = .ok (.iconst 2, 1) := by decide +kernel
theorem dMod_leaves_140 : decode cMod_leaves 140 = .ok (.iadd, 1) := by decide +kernel
theorem dMod_leaves_141 : decode cMod_leaves 141 = .ok (.ireturn, 1) := by decide +kernel
theorem dMod_leaves_142 : decode cMod_leaves 142 = .ok (.iload_n 1, 1) := by decide +kernel
theorem dMod_leaves_143 : decode cMod_leaves 143 = .ok (.iconst 1, 1) := by decide +kernel
theorem dMod_leaves_144 : decode cMod_leaves 144 = .ok (.iadd, 1) := by decide +kernel
theorem dMod_leaves_145 : decode cMod_leaves 145 = .ok (.ireturn, 1) := by decide +kernel
theorem dMod_leaves_146 : decode cMod_leaves 146 = .ok (.iconst 2, 1) := by decide +kernel
theorem dMod_leaves_147 : decode cMod_leaves 147 = .ok (.ireturn, 1) := by decide +kernel
theorem dMod_leaves_148 : decode cMod_leaves 148 = .ok (.iconst 1, 1) := by decide +kernel
theorem dMod_leaves_149 : decode cMod_leaves 149 = .ok (.ireturn, 1) := by decide +kernel
theorem dMod_made_0 : decode cMod_made 0 = .ok (.iload_n 0, 1) := by decide +kernel
theorem dMod_made_1 : decode cMod_made 1 = .ok (.tableswitch 121 5 14 #[55, 59, 63, 67, 79, 91, 102, 121, 113, 117], 55) := by decide +kernel
theorem dMod_made_56 : decode cMod_made 56 = .ok (.iload_n 1, 1) := by decide +kernel
theorem dMod_made_57 : decode cMod_made 57 = .ok (.iload_n 2, 1) := by decide +kernel
theorem dMod_made_58 : decode cMod_made 58 = .ok (.iadd, 1) := by decide +kernel
theorem dMod_made_59 : decode cMod_made 59 = .ok (.ireturn, 1) := by decide +kernel
theorem dMod_made_60 : decode cMod_made 60 = .ok (.iload_n 1, 1) := by decide +kernel
theorem dMod_made_61 : decode cMod_made 61 = .ok (.iload_n 2, 1) := by decide +kernel
theorem dMod_made_62 : decode cMod_made 62 = .ok (.isub, 1) := by decide +kernel
theorem dMod_made_63 : decode cMod_made 63 = .ok (.ireturn, 1) := by decide +kernel
theorem dMod_made_64 : decode cMod_made 64 = .ok (.iload_n 1, 1) := by decide +kernel
theorem dMod_made_65 : decode cMod_made 65 = .ok (.iload_n 2, 1) := by decide +kernel
theorem dMod_made_66 : decode cMod_made 66 = .ok (.imul, 1) := by decide +kernel
theorem dMod_made_67 : decode cMod_made 67 = .ok (.ireturn, 1) := by decide +kernel
theorem dMod_made_68 : decode cMod_made 68 = .ok (.iload_n 2, 1) := by decide +kernel
theorem dMod_made_69 : decode cMod_made 69 = .ok (.ifCond .ne 7, 3) := by decide +kernel
theorem dMod_made_72 : decode cMod_made 72 = .ok (.iconst 0, 1) := by decide +kernel
theorem dMod_made_73 : decode cMod_made 73 = .ok (.goto 6, 3) := by decide +kernel
theorem dMod_made_76 : decode cMod_made 76 = .ok (.iload_n 1, 1) := by decide +kernel
theorem dMod_made_77 : decode cMod_made 77 = .ok (.iload_n 2, 1) := by decide +kernel
theorem dMod_made_78 : decode cMod_made 78 = .ok (.idiv, 1) := by decide +kernel
theorem dMod_made_79 : decode cMod_made 79 = .ok (.ireturn, 1) := by decide +kernel
theorem dMod_made_80 : decode cMod_made 80 = .ok (.iload_n 2, 1) := by decide +kernel
theorem dMod_made_81 : decode cMod_made 81 = .ok (.ifCond .ne 7, 3) := by decide +kernel
theorem dMod_made_84 : decode cMod_made 84 = .ok (.iload_n 1, 1) := by decide +kernel
theorem dMod_made_85 : decode cMod_made 85 = .ok (.goto 6, 3) := by decide +kernel
theorem dMod_made_88 : decode cMod_made 88 = .ok (.iload_n 1, 1) := by decide +kernel
theorem dMod_made_89 : decode cMod_made 89 = .ok (.iload_n 2, 1) := by decide +kernel
theorem dMod_made_90 : decode cMod_made 90 = .ok (.irem, 1) := by decide +kernel
theorem dMod_made_91 : decode cMod_made 91 = .ok (.ireturn, 1) := by decide +kernel
theorem dMod_made_92 : decode cMod_made 92 = .ok (.iload_n 1, 1) := by decide +kernel
theorem dMod_made_93 : decode cMod_made 93 = .ok (.iload_n 2, 1) := by decide +kernel
theorem dMod_made_94 : decode cMod_made 94 = .ok (.if_icmp .ge 7, 3) := by decide +kernel
theorem dMod_made_97 : decode cMod_made 97 = .ok (.iconst 1, 1) := by decide +kernel
theorem dMod_made_98 : decode cMod_made 98 = .ok (.goto 4, 3) := by decide +kernel
theorem dMod_made_101 : decode cMod_made 101 = .ok (.iconst 0, 1) := by decide +kernel
theorem dMod_made_102 : decode cMod_made 102 = .ok (.ireturn, 1) := by decide +kernel
theorem dMod_made_103 : decode cMod_made 103 = .ok (.iload_n 1, 1) := by decide +kernel
theorem dMod_made_104 : decode cMod_made 104 = .ok (.iload_n 2, 1) := by decide +kernel
theorem dMod_made_105 : decode cMod_made 105 = .ok (.if_icmp .ne 7, 3) := by decide +kernel
theorem dMod_made_108 : decode cMod_made 108 = .ok (.iconst 1, 1) := by decide +kernel
theorem dMod_made_109 : decode cMod_made 109 = .ok (.goto 4, 3) := by decide +kernel
theorem dMod_made_112 : decode cMod_made 112 = .ok (.iconst 0, 1) := by decide +kernel
theorem dMod_made_113 : decode cMod_made 113 = .ok (.ireturn, 1) := by decide +kernel
theorem dMod_made_114 : decode cMod_made 114 = .ok (.iload_n 1, 1) := by decide +kernel
theorem dMod_made_115 : decode cMod_made 115 = .ok (.iload_n 2, 1) := by decide +kernel
theorem dMod_made_116 : decode cMod_made 116 = .ok (.iand, 1) := by decide +kernel
theorem dMod_made_117 : decode cMod_made 117 = .ok (.ireturn, 1) := by decide +kernel
theorem dMod_made_118 : decode cMod_made 118 = .ok (.iload_n 1, 1) := by decide +kernel
theorem dMod_made_119 : decode cMod_made 119 = .ok (.iload_n 2, 1) := by decide +kernel
theorem dMod_made_120 : decode cMod_made 120 = .ok (.ior, 1) := by decide +kernel
theorem dMod_made_121 : decode cMod_made 121 = .ok (.ireturn, 1) := by decide +kernel
theorem dMod_made_122 : decode cMod_made 122 = .ok (.iload_n 1, 1) := by decide +kernel
theorem dMod_made_123 : decode cMod_made 123 = .ok (.iload_n 2, 1) := by decide +kernel
theorem dMod_made_124 : decode cMod_made 124 = .ok (.ixor, 1) := by decide +kernel
theorem dMod_made_125 : decode cMod_made 125 = .ok (.ireturn, 1) := by decide +kernel
theorem dMod_price_0 : decode cMod_price 0 = .ok (.aload_n 0, 1) := by decide +kernel
theorem dMod_price_1 : decode cMod_price 1 = .ok (.getfield 56, 3) := by decide +kernel
theorem dMod_price_4 : decode cMod_price 4 = .ok (.aload_n 0, 1) := by decide +kernel
theorem dMod_price_5 : decode cMod_price 5 = .ok (.getfield 126, 3) := by decide +kernel
theorem dMod_price_8 : decode cMod_price 8 = .ok (.iaload, 1) := by decide +kernel
theorem dMod_price_9 : decode cMod_price 9 = .ok (.iconst 1, 1) := by decide +kernel
theorem dMod_price_10 : decode cMod_price 10 = .ok (.if_icmp .le 7, 3) := by decide +kernel
theorem dMod_price_13 : decode cMod_price 13 = .ok (.iconst 1, 1) := by decide +kernel
theorem dMod_price_14 : decode cMod_price 14 = .ok (.goto 4, 3) := by decide +kernel
theorem dMod_price_17 : decode cMod_price 17 = .ok (.iconst 0, 1) := by decide +kernel
theorem dMod_price_18 : decode cMod_price 18 = .ok (.istore_n 2, 1) := by decide +kernel
theorem dMod_price_19 : decode cMod_price 19 = .ok (.iload_n 1, 1) := by decide +kernel
theorem dMod_price_20 : decode cMod_price 20 = .ok (.bipush 19, 2) := by decide +kernel
theorem dMod_price_22 : decode cMod_price 22 = .ok (.if_icmp .ne 59, 3) := by decide +kernel
theorem dMod_price_25 : decode cMod_price 25 = .ok (.iload_n 2, 1) := by decide +kernel
theorem dMod_price_26 : decode cMod_price 26 = .ok (.ifCond .eq 24, 3) := by decide +kernel
theorem dMod_price_29 : decode cMod_price 29 = .ok (.aload_n 0, 1) := by decide +kernel
theorem dMod_price_30 : decode cMod_price 30 = .ok (.aload_n 0, 1) := by decide +kernel
theorem dMod_price_31 : decode cMod_price 31 = .ok (.getfield 77, 3) := by decide +kernel
theorem dMod_price_34 : decode cMod_price 34 = .ok (.aload_n 0, 1) := by decide +kernel
theorem dMod_price_35 : decode cMod_price 35 = .ok (.getfield 126, 3) := by decide +kernel
theorem dMod_price_38 : decode cMod_price 38 = .ok (.iaload, 1) := by decide +kernel
theorem dMod_price_39 : decode cMod_price 39 = .ok (.aload_n 0, 1) := by decide +kernel
theorem dMod_price_40 : decode cMod_price 40 = .ok (.iconst 1, 1) := by decide +kernel
theorem dMod_price_41 : decode cMod_price 41 = .ok (.invokevirtual 142, 3) := by decide +kernel
theorem dMod_price_44 : decode cMod_price 44 = .ok (.invokevirtual 114, 3) := by decide +kernel
theorem dMod_price_47 : decode cMod_price 47 = .ok (.goto 4, 3) := by decide +kernel
theorem dMod_price_50 : decode cMod_price 50 = .ok (.iconst 0, 1) := by decide +kernel
theorem dMod_price_51 : decode cMod_price 51 = .ok (.istore_n 3, 1) := by decide +kernel
theorem dMod_price_52 : decode cMod_price 52 = .ok (.iload_n 2, 1) := by decide +kernel
theorem dMod_price_53 : decode cMod_price 53 = .ok (.ifCond .eq 12, 3) := by decide +kernel
theorem dMod_price_56 : decode cMod_price 56 = .ok (.iload_n 3, 1) := by decide +kernel
theorem dMod_price_57 : decode cMod_price 57 = .ok (.aload_n 0, 1) := by decide +kernel
theorem dMod_price_58 : decode cMod_price 58 = .ok (.iconst 0, 1) := by decide +kernel
theorem dMod_price_59 : decode cMod_price 59 = .ok (.invokevirtual 142, 3) := by decide +kernel
theorem dMod_price_62 : decode cMod_price 62 = .ok (.if_icmp .ne 7, 3) := by decide +kernel
theorem dMod_price_65 : decode cMod_price 65 = .ok (.iconst 5, 1) := by decide +kernel
theorem dMod_price_66 : decode cMod_price 66 = .ok (.goto 14, 3) := by decide +kernel
theorem dMod_price_69 : decode cMod_price 69 = .ok (.iload_n 3, 1) := by decide +kernel
theorem dMod_price_70 : decode cMod_price 70 = .ok (.ifCond .ne 8, 3) := by decide +kernel
theorem dMod_price_73 : decode cMod_price 73 = .ok (.bipush 40, 2) := by decide +kernel
theorem dMod_price_75 : decode cMod_price 75 = .ok (.goto 5, 3) := by decide +kernel
theorem dMod_price_78 : decode cMod_price 78 = .ok (.bipush 20, 2) := by decide +kernel
theorem dMod_price_80 : decode cMod_price 80 = .ok (.ireturn, 1) := by decide +kernel
theorem dMod_price_81 : decode cMod_price 81 = .ok (.iload_n 1, 1) := by decide +kernel
theorem dMod_price_82 : decode cMod_price 82 = .ok (.bipush 27, 2) := by decide +kernel
theorem dMod_price_84 : decode cMod_price 84 = .ok (.if_icmp .ne 23, 3) := by decide +kernel
theorem dMod_price_87 : decode cMod_price 87 = .ok (.iload_n 2, 1) := by decide +kernel
theorem dMod_price_88 : decode cMod_price 88 = .ok (.ifCond .eq 16, 3) := by decide +kernel
theorem dMod_price_91 : decode cMod_price 91 = .ok (.aload_n 0, 1) := by decide +kernel
theorem dMod_price_92 : decode cMod_price 92 = .ok (.iconst 1, 1) := by decide +kernel
theorem dMod_price_93 : decode cMod_price 93 = .ok (.invokevirtual 142, 3) := by decide +kernel
theorem dMod_price_96 : decode cMod_price 96 = .ok (.ifCond .eq 8, 3) := by decide +kernel
theorem dMod_price_99 : decode cMod_price 99 = .ok (.bipush 40, 2) := by decide +kernel
theorem dMod_price_101 : decode cMod_price 101 = .ok (.goto 5, 3) := by decide +kernel
theorem dMod_price_104 : decode cMod_price 104 = .ok (.bipush 25, 2) := by decide +kernel
theorem dMod_price_106 : decode cMod_price 106 = .ok (.ireturn, 1) := by decide +kernel
theorem dMod_price_107 : decode cMod_price 107 = .ok (.iload_n 1, 1) := by decide +kernel
theorem dMod_price_108 : decode cMod_price 108 = .ok (.invokestatic 146, 3) := by decide +kernel
theorem dMod_price_111 : decode cMod_price 111 = .ok (.ireturn, 1) := by decide +kernel
theorem gw25 : .selects RMod yMod_undo yMod_undo ∈ xG := List.mem_filter.mpr ⟨List.mem_of_getElem? (i := 25) (by decide +kernel), by decide +kernel⟩
theorem gw26 : .selects RMod yMod_push yMod_push ∈ xG := List.mem_filter.mpr ⟨List.mem_of_getElem? (i := 26) (by decide +kernel), by decide +kernel⟩
theorem gw28 : .selects RMod yMod_below yMod_below ∈ xG := List.mem_filter.mpr ⟨List.mem_of_getElem? (i := 28) (by decide +kernel), by decide +kernel⟩
theorem gw663 : .fieldLink RMod 53 "CallLedgerModel" "stacks" "[I" ∈ xG := List.mem_filter.mpr ⟨List.mem_of_getElem? (i := 663) (by decide +kernel), by decide +kernel⟩
theorem gw674 : .fieldLink RMod 132 "CallLedgerModel" "ended" "I" ∈ xG := List.mem_filter.mpr ⟨List.mem_of_getElem? (i := 674) (by decide +kernel), by decide +kernel⟩
theorem gw676 : .fieldLink RMod 135 "CallLedgerModel" "left" "I" ∈ xG := List.mem_filter.mpr ⟨List.mem_of_getElem? (i := 676) (by decide +kernel), by decide +kernel⟩
theorem gw832 : .methodLink RMod 129 yMod_undo ∈ xG := List.mem_filter.mpr ⟨List.mem_of_getElem? (i := 832) (by decide +kernel), by decide +kernel⟩
theorem gw834 : .instanceMethod yMod_undo ∈ xG := List.mem_filter.mpr ⟨List.mem_of_getElem? (i := 834) (by decide +kernel), by decide +kernel⟩
theorem gw835 : .code yMod_undo cMod_undo 2 none ∈ xG := List.mem_filter.mpr ⟨List.mem_of_getElem? (i := 835) (by decide +kernel), by decide +kernel⟩
theorem gw836 : .methodLink RMod 138 yMod_push ∈ xG := List.mem_filter.mpr ⟨List.mem_of_getElem? (i := 836) (by decide +kernel), by decide +kernel⟩
theorem gw838 : .instanceMethod yMod_push ∈ xG := List.mem_filter.mpr ⟨List.mem_of_getElem? (i := 838) (by decide +kernel), by decide +kernel⟩
theorem gw839 : .code yMod_push cMod_push 2 none ∈ xG := List.mem_filter.mpr ⟨List.mem_of_getElem? (i := 839) (by decide +kernel), by decide +kernel⟩
theorem gw844 : .methodLink RMod 142 yMod_below ∈ xG := List.mem_filter.mpr ⟨List.mem_of_getElem? (i := 844) (by decide +kernel), by decide +kernel⟩
theorem gw846 : .instanceMethod yMod_below ∈ xG := List.mem_filter.mpr ⟨List.mem_of_getElem? (i := 846) (by decide +kernel), by decide +kernel⟩
theorem gw847 : .code yMod_below cMod_below 2 (some .int) ∈ xG := List.mem_filter.mpr ⟨List.mem_of_getElem? (i := 847) (by decide +kernel), by decide +kernel⟩
theorem gw848 : .methodLink RMod 146 yMod_priceOf ∈ xG := List.mem_filter.mpr ⟨List.mem_of_getElem? (i := 848) (by decide +kernel), by decide +kernel⟩
theorem gw849 : .static yMod_priceOf ∈ xG := List.mem_filter.mpr ⟨List.mem_of_getElem? (i := 849) (by decide +kernel), by decide +kernel⟩
theorem gw850 : .code yMod_priceOf cMod_priceOf 1 (some .int) ∈ xG := List.mem_filter.mpr ⟨List.mem_of_getElem? (i := 850) (by decide +kernel), by decide +kernel⟩
set_option maxHeartbeats 4000000 in
set_option maxRecDepth 100000 in
theorem kM_undo (l : Launch) (dC : Nat → ClassId) (dI : Nat → Nat → Nat) (kI kJ kZ : ClassId) (m0 : Nat) (b1 : Nat) (b2 : Nat) (b3 : Nat) (b4 : Nat) (b5 : Nat) (b6 : Nat) (b7 : Nat) (b8 : Nat) (b9 : Nat) (b10 : Nat) (b11 : Nat) (b12 : Nat) (b13 : Nat) (b14 : Nat) (b15 : Nat) (b16 : Nat) (b17 : Nat) (b18 : Nat) (b19 : Nat) (b20 : Nat) (b21 : Nat) (b22 : Nat) (b23 : Nat) (b24 : Nat) (nA : Nat) (kn : Nat) (ln : Nat) (an : Nat) (f0 : Int32) (f2 : Int32) (f3 : Int32) (f4 : Int32) (f5 : Int32) (D : Nat) (bal : Nat → Int32) (ka : Nat → Int32) (kN : Nat → Int32) (kv : Nat → Int32) (oB : Nat → Int32) (oA : Nat → Int32) (oN : Nat → Int32) (oV : Nat → Int32) (oK : Nat → Nat) (oL : Nat → Nat) (hD8 : D < 8) (hoK : oK D ≤ 500) :
    XM stX l yMod_undo wMod_undo { frames := 0, cells := 0, slots := 0, locals := 0 } (dC, dI) xCl (x_T kI kJ kZ) [(m0, .inr (6, [.int f0, .int (nI nA), .ref b1, .ref b2, .ref b3, .ref b4, .ref b5, .ref b6, .ref b7, .int (nI kn), .ref b8, .int (nI ln), .ref b9, .ref b10, .ref b11, .ref b12, .ref b13, .ref b14, .int (nI D), .ref b15, .ref b16, .ref b17, .ref b18, .ref b19, .ref b20, .ref b21, .ref b22, .ref b23, .ref b24, .int (nI an), .int f2, .int f3, .int f4, .int f5])), (b1, .inl (kI, 24, .inl bal)), (b5, .inl (kI, 500, .inl ka)), (b6, .inl (kI, 500, .inl kN)), (b7, .inl (kI, 500, .inl kv)), (b9, .inl (kI, 192, .inl oB)), (b10, .inl (kI, 4000, .inl oA)), (b11, .inl (kI, 4000, .inl oN)), (b12, .inl (kI, 4000, .inl oV)), (b13, .inl (kI, 8, .inl (fun j => nI (oK j)))), (b14, .inl (kI, 8, .inl (fun j => nI (oL j))))] [.ref m0] 0 0 x_eV (fun (r : Unit) (u : (Nat → Int32) × (Nat → Int32) × (Nat → Int32) × (Nat → Int32)) => (mSeg u.1 bal 0 24 (fun i => oB (24 * D + i))) ∧ (mSeg u.2.1 ka 0 (oK D) (fun i => oA (500 * D + i))) ∧ (mSeg u.2.2.1 kN 0 (oK D) (fun i => oN (500 * D + i))) ∧ (mSeg u.2.2.2 kv 0 (oK D) (fun i => oV (500 * D + i)))) (fun (u : (Nat → Int32) × (Nat → Int32) × (Nat → Int32) × (Nat → Int32)) => [(m0, .inr (6, [.int f0, .int (nI nA), .ref b1, .ref b2, .ref b3, .ref b4, .ref b5, .ref b6, .ref b7, .int (nI (oK D)), .ref b8, .int (nI (oL D)), .ref b9, .ref b10, .ref b11, .ref b12, .ref b13, .ref b14, .int (nI D), .ref b15, .ref b16, .ref b17, .ref b18, .ref b19, .ref b20, .ref b21, .ref b22, .ref b23, .ref b24, .int (nI an), .int f2, .int f3, .int f4, .int f5])), (b1, .inl (kI, 24, .inl u.1)), (b5, .inl (kI, 500, .inl u.2.1)), (b6, .inl (kI, 500, .inl u.2.2.1)), (b7, .inl (kI, 500, .inl u.2.2.2)), (b9, .inl (kI, 192, .inl oB)), (b10, .inl (kI, 4000, .inl oA)), (b11, .inl (kI, 4000, .inl oN)), (b12, .inl (kI, 4000, .inl oV)), (b13, .inl (kI, 8, .inl (fun j => nI (oK j)))), (b14, .inl (kI, 8, .inl (fun j => nI (oL j))))]) := by
  refine XM.ofV (cc := cMod_undo) (maxL := 2) (by decide) rfl (Nat.le_of_ble_eq_true rfl) ?_
  intro p e s m below meth c A Q hx hb hr hml hown hts hlocks hin hA hK hP hD hX hS ls hl hret
  have hl : lv_has ls 2 [(0, .ref m0)] := hl
  refine lv_iconst (v := 0) hx hb dMod_undo_0 (by decide) ?_
  refine lv_istore_n (lv' := [(1, .int 0), (0, .ref m0)]) hx hb dMod_undo_1 rfl hl (by decide) rfl (fun ls hl => ?_)
  have loop2 : ∀ (N : Nat) (i : Nat) (bx : Nat → Int32), ∀ (hN : 24 - i < N) (hi : i ≤ 24) (hsB : mSeg bx bal 0 i (fun i => oB (24 * D + i))) (H : Heap) (locs : List Loc), va_P (dC, dI) xCl [(m0, .inr (6, [.int f0, .int (nI nA), .ref b1, .ref b2, .ref b3, .ref b4, .ref b5, .ref b6, .ref b7, .int (nI kn), .ref b8, .int (nI ln), .ref b9, .ref b10, .ref b11, .ref b12, .ref b13, .ref b14, .int (nI D), .ref b15, .ref b16, .ref b17, .ref b18, .ref b19, .ref b20, .ref b21, .ref b22, .ref b23, .ref b24, .int (nI an), .int f2, .int f3, .int f4, .int f5])), (b1, .inl (kI, 24, .inl bx)), (b5, .inl (kI, 500, .inl ka)), (b6, .inl (kI, 500, .inl kN)), (b7, .inl (kI, 500, .inl kv)), (b9, .inl (kI, 192, .inl oB)), (b10, .inl (kI, 4000, .inl oA)), (b11, .inl (kI, 4000, .inl oN)), (b12, .inl (kI, 4000, .inl oV)), (b13, .inl (kI, 8, .inl (fun j => nI (oK j)))), (b14, .inl (kI, 8, .inl (fun j => nI (oL j))))] H → va_D A [(m0, .inr (6, [.int f0, .int (nI nA), .ref b1, .ref b2, .ref b3, .ref b4, .ref b5, .ref b6, .ref b7, .int (nI kn), .ref b8, .int (nI ln), .ref b9, .ref b10, .ref b11, .ref b12, .ref b13, .ref b14, .int (nI D), .ref b15, .ref b16, .ref b17, .ref b18, .ref b19, .ref b20, .ref b21, .ref b22, .ref b23, .ref b24, .int (nI an), .int f2, .int f3, .int f4, .int f5])), (b1, .inl (kI, 24, .inl bx)), (b5, .inl (kI, 500, .inl ka)), (b6, .inl (kI, 500, .inl kN)), (b7, .inl (kI, 500, .inl kv)), (b9, .inl (kI, 192, .inl oB)), (b10, .inl (kI, 4000, .inl oA)), (b11, .inl (kI, 4000, .inl oN)), (b12, .inl (kI, 4000, .inl oV)), (b13, .inl (kI, 8, .inl (fun j => nI (oK j)))), (b14, .inl (kI, 8, .inl (fun j => nI (oL j))))] → va_S A s.heap H locs → ∀ ls, lv_has ls 2 [(0, .ref m0), (1, .int (nI i))] → W p l e { frames := 0, cells := 0, slots := 0, locals := 0 } s m [.ref m0].toArray below meth c H locs 0 0 Q (F0 m 2 ls []) := by
    intro N
    induction N with
    | zero => intro i bx hN; exact absurd hN (Nat.not_lt_zero _)
    | succ N ih =>
      intro i bx hN hi hsB H locs hP hD hS ls hl
      refine lv_iload_n hx hb dMod_undo_2 rfl (lv_at hl 1 rfl) ?_
      refine lv_bipush (v := 24) hx hb dMod_undo_3 (by decide) ?_
      refine lv_icmp_ge (tgt := 34) hx hb dMod_undo_5 (by decide) (fun c5 => ?_) (fun c5 => ?_)
      · have c5 : 24 ≤ i := (nI_leI (a := 24) (b := i) (by omega) (by omega)).mp c5
        have hi24 : i = 24 := by omega
        subst hi24
        refine lv_aload_n hx hb dMod_undo_34 rfl (lv_at hl 0 rfl) ?_
        refine lv_aload_n hx hb dMod_undo_35 rfl (lv_at hl 0 rfl) ?_
        refine va_get (D := (dC, dI)) (ci := 6) (v := .ref b13) (C := RMod) (T := TMod) (N := 34) hx hb hts (fun w h => List.mem_cons_of_mem _ (layMod w h)) hown hK hP 0 rfl rfl 16 (by decide) (hts (.fieldLink RMod 47 "CallLedgerModel" "oldKeys" "[I") (List.mem_cons_of_mem _ gw660)) (fun _ h9 => h9) rfl dMod_undo_36 ?_
        refine lv_aload_n hx hb dMod_undo_39 rfl (lv_at hl 0 rfl) ?_
        refine va_get (D := (dC, dI)) (ci := 6) (v := .int (nI D)) (C := RMod) (T := TMod) (N := 34) hx hb hts (fun w h => List.mem_cons_of_mem _ (layMod w h)) hown hK hP 0 rfl rfl 18 (by decide) (hts (.fieldLink RMod 126 "CallLedgerModel" "depth" "I") (List.mem_cons_of_mem _ gw662)) (fun _ h9 => h9) rfl dMod_undo_40 ?_
        refine x_iald (j := D) hx hb hK hP 9 0 rfl rfl rfl (by omega) (by omega) dMod_undo_43 ?_
        refine va_put (D := (dC, dI)) (ci := 6) (v := .int (nI (oK D))) (ty := .int) (C := RMod) (T := TMod) (N := 34) hx hb hts (fun w h => List.mem_cons_of_mem _ (layMod w h)) tyMod tykMod nmMod hown hK hP hD hS 0 rfl rfl 9 (by decide) (hts (.fieldLink RMod 107 "CallLedgerModel" "keys" "I") (List.mem_cons_of_mem _ gw653)) (fun _ h9 => h9) rfl (by decide +kernel) rfl rfl (Nat.le_of_ble_eq_true rfl) dMod_undo_44 (fun H locs hP hD hS => ?_)
        have hP : va_P (dC, dI) xCl [(m0, .inr (6, [.int f0, .int (nI nA), .ref b1, .ref b2, .ref b3, .ref b4, .ref b5, .ref b6, .ref b7, .int (nI (oK D)), .ref b8, .int (nI ln), .ref b9, .ref b10, .ref b11, .ref b12, .ref b13, .ref b14, .int (nI D), .ref b15, .ref b16, .ref b17, .ref b18, .ref b19, .ref b20, .ref b21, .ref b22, .ref b23, .ref b24, .int (nI an), .int f2, .int f3, .int f4, .int f5])), (b1, .inl (kI, 24, .inl bx)), (b5, .inl (kI, 500, .inl ka)), (b6, .inl (kI, 500, .inl kN)), (b7, .inl (kI, 500, .inl kv)), (b9, .inl (kI, 192, .inl oB)), (b10, .inl (kI, 4000, .inl oA)), (b11, .inl (kI, 4000, .inl oN)), (b12, .inl (kI, 4000, .inl oV)), (b13, .inl (kI, 8, .inl (fun j => nI (oK j)))), (b14, .inl (kI, 8, .inl (fun j => nI (oL j))))] H := hP
        have hD : va_D A [(m0, .inr (6, [.int f0, .int (nI nA), .ref b1, .ref b2, .ref b3, .ref b4, .ref b5, .ref b6, .ref b7, .int (nI (oK D)), .ref b8, .int (nI ln), .ref b9, .ref b10, .ref b11, .ref b12, .ref b13, .ref b14, .int (nI D), .ref b15, .ref b16, .ref b17, .ref b18, .ref b19, .ref b20, .ref b21, .ref b22, .ref b23, .ref b24, .int (nI an), .int f2, .int f3, .int f4, .int f5])), (b1, .inl (kI, 24, .inl bx)), (b5, .inl (kI, 500, .inl ka)), (b6, .inl (kI, 500, .inl kN)), (b7, .inl (kI, 500, .inl kv)), (b9, .inl (kI, 192, .inl oB)), (b10, .inl (kI, 4000, .inl oA)), (b11, .inl (kI, 4000, .inl oN)), (b12, .inl (kI, 4000, .inl oV)), (b13, .inl (kI, 8, .inl (fun j => nI (oK j)))), (b14, .inl (kI, 8, .inl (fun j => nI (oL j))))] := hD
        refine lv_aload_n hx hb dMod_undo_47 rfl (lv_at hl 0 rfl) ?_
        refine lv_aload_n hx hb dMod_undo_48 rfl (lv_at hl 0 rfl) ?_
        refine va_get (D := (dC, dI)) (ci := 6) (v := .ref b14) (C := RMod) (T := TMod) (N := 34) hx hb hts (fun w h => List.mem_cons_of_mem _ (layMod w h)) hown hK hP 0 rfl rfl 17 (by decide) (hts (.fieldLink RMod 50 "CallLedgerModel" "oldLogged" "[I") (List.mem_cons_of_mem _ gw661)) (fun _ h9 => h9) rfl dMod_undo_49 ?_
        refine lv_aload_n hx hb dMod_undo_52 rfl (lv_at hl 0 rfl) ?_
        refine va_get (D := (dC, dI)) (ci := 6) (v := .int (nI D)) (C := RMod) (T := TMod) (N := 34) hx hb hts (fun w h => List.mem_cons_of_mem _ (layMod w h)) hown hK hP 0 rfl rfl 18 (by decide) (hts (.fieldLink RMod 126 "CallLedgerModel" "depth" "I") (List.mem_cons_of_mem _ gw662)) (fun _ h9 => h9) rfl dMod_undo_53 ?_
        refine x_iald (j := D) hx hb hK hP 10 0 rfl rfl rfl (by omega) (by omega) dMod_undo_56 ?_
        refine va_put (D := (dC, dI)) (ci := 6) (v := .int (nI (oL D))) (ty := .int) (C := RMod) (T := TMod) (N := 34) hx hb hts (fun w h => List.mem_cons_of_mem _ (layMod w h)) tyMod tykMod nmMod hown hK hP hD hS 0 rfl rfl 11 (by decide) (hts (.fieldLink RMod 117 "CallLedgerModel" "logged" "I") (List.mem_cons_of_mem _ gw655)) (fun _ h9 => h9) rfl (by decide +kernel) rfl rfl (Nat.le_of_ble_eq_true rfl) dMod_undo_57 (fun H locs hP hD hS => ?_)
        have hP : va_P (dC, dI) xCl [(m0, .inr (6, [.int f0, .int (nI nA), .ref b1, .ref b2, .ref b3, .ref b4, .ref b5, .ref b6, .ref b7, .int (nI (oK D)), .ref b8, .int (nI (oL D)), .ref b9, .ref b10, .ref b11, .ref b12, .ref b13, .ref b14, .int (nI D), .ref b15, .ref b16, .ref b17, .ref b18, .ref b19, .ref b20, .ref b21, .ref b22, .ref b23, .ref b24, .int (nI an), .int f2, .int f3, .int f4, .int f5])), (b1, .inl (kI, 24, .inl bx)), (b5, .inl (kI, 500, .inl ka)), (b6, .inl (kI, 500, .inl kN)), (b7, .inl (kI, 500, .inl kv)), (b9, .inl (kI, 192, .inl oB)), (b10, .inl (kI, 4000, .inl oA)), (b11, .inl (kI, 4000, .inl oN)), (b12, .inl (kI, 4000, .inl oV)), (b13, .inl (kI, 8, .inl (fun j => nI (oK j)))), (b14, .inl (kI, 8, .inl (fun j => nI (oL j))))] H := hP
        have hD : va_D A [(m0, .inr (6, [.int f0, .int (nI nA), .ref b1, .ref b2, .ref b3, .ref b4, .ref b5, .ref b6, .ref b7, .int (nI (oK D)), .ref b8, .int (nI (oL D)), .ref b9, .ref b10, .ref b11, .ref b12, .ref b13, .ref b14, .int (nI D), .ref b15, .ref b16, .ref b17, .ref b18, .ref b19, .ref b20, .ref b21, .ref b22, .ref b23, .ref b24, .int (nI an), .int f2, .int f3, .int f4, .int f5])), (b1, .inl (kI, 24, .inl bx)), (b5, .inl (kI, 500, .inl ka)), (b6, .inl (kI, 500, .inl kN)), (b7, .inl (kI, 500, .inl kv)), (b9, .inl (kI, 192, .inl oB)), (b10, .inl (kI, 4000, .inl oA)), (b11, .inl (kI, 4000, .inl oN)), (b12, .inl (kI, 4000, .inl oV)), (b13, .inl (kI, 8, .inl (fun j => nI (oK j)))), (b14, .inl (kI, 8, .inl (fun j => nI (oL j))))] := hD
        refine lv_iconst (v := 0) hx hb dMod_undo_60 (by decide) ?_
        refine lv_istore_n (lv' := [(1, .int 0), (0, .ref m0)]) hx hb dMod_undo_61 rfl hl (by decide) rfl (fun ls hl => ?_)
        have loop62 : ∀ (N : Nat) (i : Nat) (kax : Nat → Int32) (kNx : Nat → Int32) (kvx : Nat → Int32), ∀ (hN : oK D - i < N) (hi : i ≤ oK D) (hsA : mSeg kax ka 0 i (fun i => oA (500 * D + i))) (hsN : mSeg kNx kN 0 i (fun i => oN (500 * D + i))) (hsV : mSeg kvx kv 0 i (fun i => oV (500 * D + i))) (H : Heap) (locs : List Loc), va_P (dC, dI) xCl [(m0, .inr (6, [.int f0, .int (nI nA), .ref b1, .ref b2, .ref b3, .ref b4, .ref b5, .ref b6, .ref b7, .int (nI (oK D)), .ref b8, .int (nI (oL D)), .ref b9, .ref b10, .ref b11, .ref b12, .ref b13, .ref b14, .int (nI D), .ref b15, .ref b16, .ref b17, .ref b18, .ref b19, .ref b20, .ref b21, .ref b22, .ref b23, .ref b24, .int (nI an), .int f2, .int f3, .int f4, .int f5])), (b1, .inl (kI, 24, .inl bx)), (b5, .inl (kI, 500, .inl kax)), (b6, .inl (kI, 500, .inl kNx)), (b7, .inl (kI, 500, .inl kvx)), (b9, .inl (kI, 192, .inl oB)), (b10, .inl (kI, 4000, .inl oA)), (b11, .inl (kI, 4000, .inl oN)), (b12, .inl (kI, 4000, .inl oV)), (b13, .inl (kI, 8, .inl (fun j => nI (oK j)))), (b14, .inl (kI, 8, .inl (fun j => nI (oL j))))] H → va_D A [(m0, .inr (6, [.int f0, .int (nI nA), .ref b1, .ref b2, .ref b3, .ref b4, .ref b5, .ref b6, .ref b7, .int (nI (oK D)), .ref b8, .int (nI (oL D)), .ref b9, .ref b10, .ref b11, .ref b12, .ref b13, .ref b14, .int (nI D), .ref b15, .ref b16, .ref b17, .ref b18, .ref b19, .ref b20, .ref b21, .ref b22, .ref b23, .ref b24, .int (nI an), .int f2, .int f3, .int f4, .int f5])), (b1, .inl (kI, 24, .inl bx)), (b5, .inl (kI, 500, .inl kax)), (b6, .inl (kI, 500, .inl kNx)), (b7, .inl (kI, 500, .inl kvx)), (b9, .inl (kI, 192, .inl oB)), (b10, .inl (kI, 4000, .inl oA)), (b11, .inl (kI, 4000, .inl oN)), (b12, .inl (kI, 4000, .inl oV)), (b13, .inl (kI, 8, .inl (fun j => nI (oK j)))), (b14, .inl (kI, 8, .inl (fun j => nI (oL j))))] → va_S A s.heap H locs → ∀ ls, lv_has ls 2 [(0, .ref m0), (1, .int (nI i))] → W p l e { frames := 0, cells := 0, slots := 0, locals := 0 } s m [.ref m0].toArray below meth c H locs 0 0 Q (F0 m 62 ls []) := by
          intro N
          induction N with
          | zero => intro i kax kNx kvx hN; exact absurd hN (Nat.not_lt_zero _)
          | succ N ih =>
            intro i kax kNx kvx hN hi hsA hsN hsV H locs hP hD hS ls hl
            refine lv_iload_n hx hb dMod_undo_62 rfl (lv_at hl 1 rfl) ?_
            refine lv_aload_n hx hb dMod_undo_63 rfl (lv_at hl 0 rfl) ?_
            refine va_get (D := (dC, dI)) (ci := 6) (v := .int (nI (oK D))) (C := RMod) (T := TMod) (N := 34) hx hb hts (fun w h => List.mem_cons_of_mem _ (layMod w h)) hown hK hP 0 rfl rfl 9 (by decide) (hts (.fieldLink RMod 107 "CallLedgerModel" "keys" "I") (List.mem_cons_of_mem _ gw653)) (fun _ h9 => h9) rfl dMod_undo_64 ?_
            refine lv_icmp_ge (tgt := 139) hx hb dMod_undo_67 (by decide) (fun c67 => ?_) (fun c67 => ?_)
            · have c67 : (oK D) ≤ i := (nI_leI (a := (oK D)) (b := i) (by omega) (by omega)).mp c67
              have hik : i = oK D := by omega
              rw [hik] at hsA hsN hsV
              exact hret  ((bx, kax, kNx, kvx)) _ _ _ (⟨hsB, hsA, hsN, hsV⟩) (hP.sub [0, 1, 2, 3, 4, 5, 6, 7, 8, 9, 10] rfl) (hD.sub [0, 1, 2, 3, 4, 5, 6, 7, 8, 9, 10] (by decide) rfl) hS dMod_undo_139
            · have c67 : ¬ ((oK D) ≤ i) := fun z9 => c67 ((nI_leI (a := (oK D)) (b := i) (by omega) (by omega)).mpr z9)
              refine lv_aload_n hx hb dMod_undo_70 rfl (lv_at hl 0 rfl) ?_
              refine va_get (D := (dC, dI)) (ci := 6) (v := .ref b5) (C := RMod) (T := TMod) (N := 34) hx hb hts (fun w h => List.mem_cons_of_mem _ (layMod w h)) hown hK hP 0 rfl rfl 6 (by decide) (hts (.fieldLink RMod 23 "CallLedgerModel" "keyAccounts" "[I") (List.mem_cons_of_mem _ gw650)) (fun _ h9 => h9) rfl dMod_undo_71 ?_
              refine lv_iload_n hx hb dMod_undo_74 rfl (lv_at hl 1 rfl) ?_
              refine lv_aload_n hx hb dMod_undo_75 rfl (lv_at hl 0 rfl) ?_
              refine va_get (D := (dC, dI)) (ci := 6) (v := .ref b10) (C := RMod) (T := TMod) (N := 34) hx hb hts (fun w h => List.mem_cons_of_mem _ (layMod w h)) hown hK hP 0 rfl rfl 13 (by decide) (hts (.fieldLink RMod 38 "CallLedgerModel" "oldAccounts" "[I") (List.mem_cons_of_mem _ gw657)) (fun _ h9 => h9) rfl dMod_undo_76 ?_
              refine lv_sipush (v := 500) hx hb dMod_undo_79 (by decide) ?_
              refine lv_aload_n hx hb dMod_undo_82 rfl (lv_at hl 0 rfl) ?_
              refine va_get (D := (dC, dI)) (ci := 6) (v := .int (nI D)) (C := RMod) (T := TMod) (N := 34) hx hb hts (fun w h => List.mem_cons_of_mem _ (layMod w h)) hown hK hP 0 rfl rfl 18 (by decide) (hts (.fieldLink RMod 126 "CallLedgerModel" "depth" "I") (List.mem_cons_of_mem _ gw662)) (fun _ h9 => h9) rfl dMod_undo_83 ?_
              refine lv_imul hx hb dMod_undo_86 ?_
              refine x_topi (y := nI (500 * D)) (x_mul500) ?_
              refine lv_iload_n hx hb dMod_undo_87 rfl (lv_at hl 1 rfl) ?_
              refine lv_iadd hx hb dMod_undo_88 ?_
              refine x_topi (y := nI (500 * D + i)) (nI_add _ _) ?_
              refine x_iald (j := 500 * D + i) hx hb hK hP 6 0 rfl rfl rfl (by omega) (by omega) dMod_undo_89 ?_
              refine x_iast (j := i) hx hb hK hP hD hS 2 0 rfl rfl rfl (by omega) (by omega) dMod_undo_90 (fun H locs hP hD hS => ?_)
              have hP : va_P (dC, dI) xCl [(m0, .inr (6, [.int f0, .int (nI nA), .ref b1, .ref b2, .ref b3, .ref b4, .ref b5, .ref b6, .ref b7, .int (nI (oK D)), .ref b8, .int (nI (oL D)), .ref b9, .ref b10, .ref b11, .ref b12, .ref b13, .ref b14, .int (nI D), .ref b15, .ref b16, .ref b17, .ref b18, .ref b19, .ref b20, .ref b21, .ref b22, .ref b23, .ref b24, .int (nI an), .int f2, .int f3, .int f4, .int f5])), (b1, .inl (kI, 24, .inl bx)), (b5, .inl (kI, 500, .inl (upd kax i (oA (500 * D + i))))), (b6, .inl (kI, 500, .inl kNx)), (b7, .inl (kI, 500, .inl kvx)), (b9, .inl (kI, 192, .inl oB)), (b10, .inl (kI, 4000, .inl oA)), (b11, .inl (kI, 4000, .inl oN)), (b12, .inl (kI, 4000, .inl oV)), (b13, .inl (kI, 8, .inl (fun j => nI (oK j)))), (b14, .inl (kI, 8, .inl (fun j => nI (oL j))))] H := hP
              have hD : va_D A [(m0, .inr (6, [.int f0, .int (nI nA), .ref b1, .ref b2, .ref b3, .ref b4, .ref b5, .ref b6, .ref b7, .int (nI (oK D)), .ref b8, .int (nI (oL D)), .ref b9, .ref b10, .ref b11, .ref b12, .ref b13, .ref b14, .int (nI D), .ref b15, .ref b16, .ref b17, .ref b18, .ref b19, .ref b20, .ref b21, .ref b22, .ref b23, .ref b24, .int (nI an), .int f2, .int f3, .int f4, .int f5])), (b1, .inl (kI, 24, .inl bx)), (b5, .inl (kI, 500, .inl (upd kax i (oA (500 * D + i))))), (b6, .inl (kI, 500, .inl kNx)), (b7, .inl (kI, 500, .inl kvx)), (b9, .inl (kI, 192, .inl oB)), (b10, .inl (kI, 4000, .inl oA)), (b11, .inl (kI, 4000, .inl oN)), (b12, .inl (kI, 4000, .inl oV)), (b13, .inl (kI, 8, .inl (fun j => nI (oK j)))), (b14, .inl (kI, 8, .inl (fun j => nI (oL j))))] := hD
              refine lv_aload_n hx hb dMod_undo_91 rfl (lv_at hl 0 rfl) ?_
              refine va_get (D := (dC, dI)) (ci := 6) (v := .ref b6) (C := RMod) (T := TMod) (N := 34) hx hb hts (fun w h => List.mem_cons_of_mem _ (layMod w h)) hown hK hP 0 rfl rfl 7 (by decide) (hts (.fieldLink RMod 26 "CallLedgerModel" "keyNames" "[I") (List.mem_cons_of_mem _ gw651)) (fun _ h9 => h9) rfl dMod_undo_92 ?_
              refine lv_iload_n hx hb dMod_undo_95 rfl (lv_at hl 1 rfl) ?_
              refine lv_aload_n hx hb dMod_undo_96 rfl (lv_at hl 0 rfl) ?_
              refine va_get (D := (dC, dI)) (ci := 6) (v := .ref b11) (C := RMod) (T := TMod) (N := 34) hx hb hts (fun w h => List.mem_cons_of_mem _ (layMod w h)) hown hK hP 0 rfl rfl 14 (by decide) (hts (.fieldLink RMod 41 "CallLedgerModel" "oldNames" "[I") (List.mem_cons_of_mem _ gw658)) (fun _ h9 => h9) rfl dMod_undo_97 ?_
              refine lv_sipush (v := 500) hx hb dMod_undo_100 (by decide) ?_
              refine lv_aload_n hx hb dMod_undo_103 rfl (lv_at hl 0 rfl) ?_
              refine va_get (D := (dC, dI)) (ci := 6) (v := .int (nI D)) (C := RMod) (T := TMod) (N := 34) hx hb hts (fun w h => List.mem_cons_of_mem _ (layMod w h)) hown hK hP 0 rfl rfl 18 (by decide) (hts (.fieldLink RMod 126 "CallLedgerModel" "depth" "I") (List.mem_cons_of_mem _ gw662)) (fun _ h9 => h9) rfl dMod_undo_104 ?_
              refine lv_imul hx hb dMod_undo_107 ?_
              refine x_topi (y := nI (500 * D)) (x_mul500) ?_
              refine lv_iload_n hx hb dMod_undo_108 rfl (lv_at hl 1 rfl) ?_
              refine lv_iadd hx hb dMod_undo_109 ?_
              refine x_topi (y := nI (500 * D + i)) (nI_add _ _) ?_
              refine x_iald (j := 500 * D + i) hx hb hK hP 7 0 rfl rfl rfl (by omega) (by omega) dMod_undo_110 ?_
              refine x_iast (j := i) hx hb hK hP hD hS 3 0 rfl rfl rfl (by omega) (by omega) dMod_undo_111 (fun H locs hP hD hS => ?_)
              have hP : va_P (dC, dI) xCl [(m0, .inr (6, [.int f0, .int (nI nA), .ref b1, .ref b2, .ref b3, .ref b4, .ref b5, .ref b6, .ref b7, .int (nI (oK D)), .ref b8, .int (nI (oL D)), .ref b9, .ref b10, .ref b11, .ref b12, .ref b13, .ref b14, .int (nI D), .ref b15, .ref b16, .ref b17, .ref b18, .ref b19, .ref b20, .ref b21, .ref b22, .ref b23, .ref b24, .int (nI an), .int f2, .int f3, .int f4, .int f5])), (b1, .inl (kI, 24, .inl bx)), (b5, .inl (kI, 500, .inl (upd kax i (oA (500 * D + i))))), (b6, .inl (kI, 500, .inl (upd kNx i (oN (500 * D + i))))), (b7, .inl (kI, 500, .inl kvx)), (b9, .inl (kI, 192, .inl oB)), (b10, .inl (kI, 4000, .inl oA)), (b11, .inl (kI, 4000, .inl oN)), (b12, .inl (kI, 4000, .inl oV)), (b13, .inl (kI, 8, .inl (fun j => nI (oK j)))), (b14, .inl (kI, 8, .inl (fun j => nI (oL j))))] H := hP
              have hD : va_D A [(m0, .inr (6, [.int f0, .int (nI nA), .ref b1, .ref b2, .ref b3, .ref b4, .ref b5, .ref b6, .ref b7, .int (nI (oK D)), .ref b8, .int (nI (oL D)), .ref b9, .ref b10, .ref b11, .ref b12, .ref b13, .ref b14, .int (nI D), .ref b15, .ref b16, .ref b17, .ref b18, .ref b19, .ref b20, .ref b21, .ref b22, .ref b23, .ref b24, .int (nI an), .int f2, .int f3, .int f4, .int f5])), (b1, .inl (kI, 24, .inl bx)), (b5, .inl (kI, 500, .inl (upd kax i (oA (500 * D + i))))), (b6, .inl (kI, 500, .inl (upd kNx i (oN (500 * D + i))))), (b7, .inl (kI, 500, .inl kvx)), (b9, .inl (kI, 192, .inl oB)), (b10, .inl (kI, 4000, .inl oA)), (b11, .inl (kI, 4000, .inl oN)), (b12, .inl (kI, 4000, .inl oV)), (b13, .inl (kI, 8, .inl (fun j => nI (oK j)))), (b14, .inl (kI, 8, .inl (fun j => nI (oL j))))] := hD
              refine lv_aload_n hx hb dMod_undo_112 rfl (lv_at hl 0 rfl) ?_
              refine va_get (D := (dC, dI)) (ci := 6) (v := .ref b7) (C := RMod) (T := TMod) (N := 34) hx hb hts (fun w h => List.mem_cons_of_mem _ (layMod w h)) hown hK hP 0 rfl rfl 8 (by decide) (hts (.fieldLink RMod 29 "CallLedgerModel" "keyValues" "[I") (List.mem_cons_of_mem _ gw652)) (fun _ h9 => h9) rfl dMod_undo_113 ?_
              refine lv_iload_n hx hb dMod_undo_116 rfl (lv_at hl 1 rfl) ?_
              refine lv_aload_n hx hb dMod_undo_117 rfl (lv_at hl 0 rfl) ?_
              refine va_get (D := (dC, dI)) (ci := 6) (v := .ref b12) (C := RMod) (T := TMod) (N := 34) hx hb hts (fun w h => List.mem_cons_of_mem _ (layMod w h)) hown hK hP 0 rfl rfl 15 (by decide) (hts (.fieldLink RMod 44 "CallLedgerModel" "oldValues" "[I") (List.mem_cons_of_mem _ gw659)) (fun _ h9 => h9) rfl dMod_undo_118 ?_
              refine lv_sipush (v := 500) hx hb dMod_undo_121 (by decide) ?_
              refine lv_aload_n hx hb dMod_undo_124 rfl (lv_at hl 0 rfl) ?_
              refine va_get (D := (dC, dI)) (ci := 6) (v := .int (nI D)) (C := RMod) (T := TMod) (N := 34) hx hb hts (fun w h => List.mem_cons_of_mem _ (layMod w h)) hown hK hP 0 rfl rfl 18 (by decide) (hts (.fieldLink RMod 126 "CallLedgerModel" "depth" "I") (List.mem_cons_of_mem _ gw662)) (fun _ h9 => h9) rfl dMod_undo_125 ?_
              refine lv_imul hx hb dMod_undo_128 ?_
              refine x_topi (y := nI (500 * D)) (x_mul500) ?_
              refine lv_iload_n hx hb dMod_undo_129 rfl (lv_at hl 1 rfl) ?_
              refine lv_iadd hx hb dMod_undo_130 ?_
              refine x_topi (y := nI (500 * D + i)) (nI_add _ _) ?_
              refine x_iald (j := 500 * D + i) hx hb hK hP 8 0 rfl rfl rfl (by omega) (by omega) dMod_undo_131 ?_
              refine x_iast (j := i) hx hb hK hP hD hS 4 0 rfl rfl rfl (by omega) (by omega) dMod_undo_132 (fun H locs hP hD hS => ?_)
              have hP : va_P (dC, dI) xCl [(m0, .inr (6, [.int f0, .int (nI nA), .ref b1, .ref b2, .ref b3, .ref b4, .ref b5, .ref b6, .ref b7, .int (nI (oK D)), .ref b8, .int (nI (oL D)), .ref b9, .ref b10, .ref b11, .ref b12, .ref b13, .ref b14, .int (nI D), .ref b15, .ref b16, .ref b17, .ref b18, .ref b19, .ref b20, .ref b21, .ref b22, .ref b23, .ref b24, .int (nI an), .int f2, .int f3, .int f4, .int f5])), (b1, .inl (kI, 24, .inl bx)), (b5, .inl (kI, 500, .inl (upd kax i (oA (500 * D + i))))), (b6, .inl (kI, 500, .inl (upd kNx i (oN (500 * D + i))))), (b7, .inl (kI, 500, .inl (upd kvx i (oV (500 * D + i))))), (b9, .inl (kI, 192, .inl oB)), (b10, .inl (kI, 4000, .inl oA)), (b11, .inl (kI, 4000, .inl oN)), (b12, .inl (kI, 4000, .inl oV)), (b13, .inl (kI, 8, .inl (fun j => nI (oK j)))), (b14, .inl (kI, 8, .inl (fun j => nI (oL j))))] H := hP
              have hD : va_D A [(m0, .inr (6, [.int f0, .int (nI nA), .ref b1, .ref b2, .ref b3, .ref b4, .ref b5, .ref b6, .ref b7, .int (nI (oK D)), .ref b8, .int (nI (oL D)), .ref b9, .ref b10, .ref b11, .ref b12, .ref b13, .ref b14, .int (nI D), .ref b15, .ref b16, .ref b17, .ref b18, .ref b19, .ref b20, .ref b21, .ref b22, .ref b23, .ref b24, .int (nI an), .int f2, .int f3, .int f4, .int f5])), (b1, .inl (kI, 24, .inl bx)), (b5, .inl (kI, 500, .inl (upd kax i (oA (500 * D + i))))), (b6, .inl (kI, 500, .inl (upd kNx i (oN (500 * D + i))))), (b7, .inl (kI, 500, .inl (upd kvx i (oV (500 * D + i))))), (b9, .inl (kI, 192, .inl oB)), (b10, .inl (kI, 4000, .inl oA)), (b11, .inl (kI, 4000, .inl oN)), (b12, .inl (kI, 4000, .inl oV)), (b13, .inl (kI, 8, .inl (fun j => nI (oK j)))), (b14, .inl (kI, 8, .inl (fun j => nI (oL j))))] := hD
              refine lv_iinc (v := nI (i + 1)) (lv' := [(1, .int (nI (i + 1))), (0, .ref m0)]) hx hb dMod_undo_133 hl (k := 1) rfl (nI_1 _) (by decide) rfl (fun ls hl => ?_)
              refine lv_goto (tgt := 62) hx hb dMod_undo_136 (by decide) ?_
              exact ih (i + 1) (upd kax i (oA (500 * D + i))) (upd kNx i (oN (500 * D + i))) (upd kvx i (oV (500 * D + i))) (by omega) (by omega) (hsA.s0 rfl) (hsN.s0 rfl) (hsV.s0 rfl) _ _ (hP.sub [0, 1, 2, 3, 4, 5, 6, 7, 8, 9, 10] rfl) (hD.sub [0, 1, 2, 3, 4, 5, 6, 7, 8, 9, 10] (by decide) rfl) hS _ (lv_sub hl [1, 0] rfl)
        exact loop62 _ 0 ka kN kv (Nat.lt_succ_self _) (Nat.zero_le _) (mSeg.z) (mSeg.z) (mSeg.z) _ _ (hP.sub [0, 1, 2, 3, 4, 5, 6, 7, 8, 9, 10] rfl) (hD.sub [0, 1, 2, 3, 4, 5, 6, 7, 8, 9, 10] (by decide) rfl) hS _ (lv_sub hl [1, 0] rfl)
      · have c5 : ¬ (24 ≤ i) := fun z9 => c5 ((nI_leI (a := 24) (b := i) (by omega) (by omega)).mpr z9)
        refine lv_aload_n hx hb dMod_undo_8 rfl (lv_at hl 0 rfl) ?_
        refine va_get (D := (dC, dI)) (ci := 6) (v := .ref b1) (C := RMod) (T := TMod) (N := 34) hx hb hts (fun w h => List.mem_cons_of_mem _ (layMod w h)) hown hK hP 0 rfl rfl 2 (by decide) (hts (.fieldLink RMod 7 "CallLedgerModel" "balances" "[I") (List.mem_cons_of_mem _ gw646)) (fun _ h9 => h9) rfl dMod_undo_9 ?_
        refine lv_iload_n hx hb dMod_undo_12 rfl (lv_at hl 1 rfl) ?_
        refine lv_aload_n hx hb dMod_undo_13 rfl (lv_at hl 0 rfl) ?_
        refine va_get (D := (dC, dI)) (ci := 6) (v := .ref b9) (C := RMod) (T := TMod) (N := 34) hx hb hts (fun w h => List.mem_cons_of_mem _ (layMod w h)) hown hK hP 0 rfl rfl 12 (by decide) (hts (.fieldLink RMod 35 "CallLedgerModel" "oldBalances" "[I") (List.mem_cons_of_mem _ gw656)) (fun _ h9 => h9) rfl dMod_undo_14 ?_
        refine lv_bipush (v := 24) hx hb dMod_undo_17 (by decide) ?_
        refine lv_aload_n hx hb dMod_undo_19 rfl (lv_at hl 0 rfl) ?_
        refine va_get (D := (dC, dI)) (ci := 6) (v := .int (nI D)) (C := RMod) (T := TMod) (N := 34) hx hb hts (fun w h => List.mem_cons_of_mem _ (layMod w h)) hown hK hP 0 rfl rfl 18 (by decide) (hts (.fieldLink RMod 126 "CallLedgerModel" "depth" "I") (List.mem_cons_of_mem _ gw662)) (fun _ h9 => h9) rfl dMod_undo_20 ?_
        refine lv_imul hx hb dMod_undo_23 ?_
        refine x_topi (y := nI (24 * D)) (x_mul24) ?_
        refine lv_iload_n hx hb dMod_undo_24 rfl (lv_at hl 1 rfl) ?_
        refine lv_iadd hx hb dMod_undo_25 ?_
        refine x_topi (y := nI (24 * D + i)) (nI_add _ _) ?_
        refine x_iald (j := 24 * D + i) hx hb hK hP 5 0 rfl rfl rfl (by omega) (by omega) dMod_undo_26 ?_
        refine x_iast (j := i) hx hb hK hP hD hS 1 0 rfl rfl rfl (by omega) (by omega) dMod_undo_27 (fun H locs hP hD hS => ?_)
        have hP : va_P (dC, dI) xCl [(m0, .inr (6, [.int f0, .int (nI nA), .ref b1, .ref b2, .ref b3, .ref b4, .ref b5, .ref b6, .ref b7, .int (nI kn), .ref b8, .int (nI ln), .ref b9, .ref b10, .ref b11, .ref b12, .ref b13, .ref b14, .int (nI D), .ref b15, .ref b16, .ref b17, .ref b18, .ref b19, .ref b20, .ref b21, .ref b22, .ref b23, .ref b24, .int (nI an), .int f2, .int f3, .int f4, .int f5])), (b1, .inl (kI, 24, .inl (upd bx i (oB (24 * D + i))))), (b5, .inl (kI, 500, .inl ka)), (b6, .inl (kI, 500, .inl kN)), (b7, .inl (kI, 500, .inl kv)), (b9, .inl (kI, 192, .inl oB)), (b10, .inl (kI, 4000, .inl oA)), (b11, .inl (kI, 4000, .inl oN)), (b12, .inl (kI, 4000, .inl oV)), (b13, .inl (kI, 8, .inl (fun j => nI (oK j)))), (b14, .inl (kI, 8, .inl (fun j => nI (oL j))))] H := hP
        have hD : va_D A [(m0, .inr (6, [.int f0, .int (nI nA), .ref b1, .ref b2, .ref b3, .ref b4, .ref b5, .ref b6, .ref b7, .int (nI kn), .ref b8, .int (nI ln), .ref b9, .ref b10, .ref b11, .ref b12, .ref b13, .ref b14, .int (nI D), .ref b15, .ref b16, .ref b17, .ref b18, .ref b19, .ref b20, .ref b21, .ref b22, .ref b23, .ref b24, .int (nI an), .int f2, .int f3, .int f4, .int f5])), (b1, .inl (kI, 24, .inl (upd bx i (oB (24 * D + i))))), (b5, .inl (kI, 500, .inl ka)), (b6, .inl (kI, 500, .inl kN)), (b7, .inl (kI, 500, .inl kv)), (b9, .inl (kI, 192, .inl oB)), (b10, .inl (kI, 4000, .inl oA)), (b11, .inl (kI, 4000, .inl oN)), (b12, .inl (kI, 4000, .inl oV)), (b13, .inl (kI, 8, .inl (fun j => nI (oK j)))), (b14, .inl (kI, 8, .inl (fun j => nI (oL j))))] := hD
        refine lv_iinc (v := nI (i + 1)) (lv' := [(1, .int (nI (i + 1))), (0, .ref m0)]) hx hb dMod_undo_28 hl (k := 1) rfl (nI_1 _) (by decide) rfl (fun ls hl => ?_)
        refine lv_goto (tgt := 2) hx hb dMod_undo_31 (by decide) ?_
        exact ih (i + 1) (upd bx i (oB (24 * D + i))) (by omega) (by omega) (hsB.s0 rfl) _ _ (hP.sub [0, 1, 2, 3, 4, 5, 6, 7, 8, 9, 10] rfl) (hD.sub [0, 1, 2, 3, 4, 5, 6, 7, 8, 9, 10] (by decide) rfl) hS _ (lv_sub hl [1, 0] rfl)
  exact loop2 _ 0 bal (Nat.lt_succ_self _) (by omega) (mSeg.z) _ _ (hP.sub [0, 1, 2, 3, 4, 5, 6, 7, 8, 9, 10] rfl) (hD.sub [0, 1, 2, 3, 4, 5, 6, 7, 8, 9, 10] (by decide) rfl) hS _ (lv_sub hl [1, 0] rfl)

set_option maxHeartbeats 4000000 in
set_option maxRecDepth 100000 in
theorem kM_push (l : Launch) (dC : Nat → ClassId) (dI : Nat → Nat → Nat) (kI kJ kZ : ClassId) (m0 : Nat) (b1 : Nat) (b2 : Nat) (b3 : Nat) (b4 : Nat) (b5 : Nat) (b6 : Nat) (b7 : Nat) (b8 : Nat) (b9 : Nat) (b10 : Nat) (b11 : Nat) (b12 : Nat) (b13 : Nat) (b14 : Nat) (b15 : Nat) (b16 : Nat) (b17 : Nat) (b18 : Nat) (b19 : Nat) (b20 : Nat) (b21 : Nat) (b22 : Nat) (b23 : Nat) (b24 : Nat) (nA : Nat) (kn : Nat) (ln : Nat) (an : Nat) (f0 : Int32) (f2 : Int32) (f3 : Int32) (f4 : Int32) (f5 : Int32) (D : Nat) (sk : Nat → Int32) (ht : Nat → Nat) (h : Nat) (v : Int32) (hD8 : D < 8) (hh : ht D = h) (hlt : h < 32) :
    XM stX l yMod_push wMod_push { frames := 0, cells := 0, slots := 0, locals := 0 } (dC, dI) xCl (x_T kI kJ kZ) [(m0, .inr (6, [.int f0, .int (nI nA), .ref b1, .ref b2, .ref b3, .ref b4, .ref b5, .ref b6, .ref b7, .int (nI kn), .ref b8, .int (nI ln), .ref b9, .ref b10, .ref b11, .ref b12, .ref b13, .ref b14, .int (nI D), .ref b15, .ref b16, .ref b17, .ref b18, .ref b19, .ref b20, .ref b21, .ref b22, .ref b23, .ref b24, .int (nI an), .int f2, .int f3, .int f4, .int f5])), (b15, .inl (kI, 256, .inl sk)), (b16, .inl (kI, 8, .inl (fun j => nI (ht j))))] [.ref m0, .int v] 0 0 x_eV (fun (r : Unit) (u : Unit) => True) (fun (u : Unit) => [(m0, .inr (6, [.int f0, .int (nI nA), .ref b1, .ref b2, .ref b3, .ref b4, .ref b5, .ref b6, .ref b7, .int (nI kn), .ref b8, .int (nI ln), .ref b9, .ref b10, .ref b11, .ref b12, .ref b13, .ref b14, .int (nI D), .ref b15, .ref b16, .ref b17, .ref b18, .ref b19, .ref b20, .ref b21, .ref b22, .ref b23, .ref b24, .int (nI an), .int f2, .int f3, .int f4, .int f5])), (b15, .inl (kI, 256, .inl (upd sk (32 * D + h) v))), (b16, .inl (kI, 8, .inl (fun j => nI (va_up ht D (h + 1) j))))]) := by
  refine XM.ofV (cc := cMod_push) (maxL := 2) (by decide) rfl (Nat.le_of_ble_eq_true rfl) ?_
  intro p e s m below meth c A Q hx hb hr hml hown hts hlocks hin hA hK hP hD hX hS ls hl hret
  have hl : lv_has ls 2 [(0, .ref m0), (1, .int v)] := hl
  refine lv_aload_n hx hb dMod_push_0 rfl (lv_at hl 0 rfl) ?_
  refine va_get (D := (dC, dI)) (ci := 6) (v := .ref b15) (C := RMod) (T := TMod) (N := 34) hx hb hts (fun w h => List.mem_cons_of_mem _ (layMod w h)) hown hK hP 0 rfl rfl 19 (by decide) (hts (.fieldLink RMod 53 "CallLedgerModel" "stacks" "[I") (List.mem_cons_of_mem _ gw663)) (fun _ h9 => h9) rfl dMod_push_1 ?_
  refine lv_bipush (v := 32) hx hb dMod_push_4 (by decide) ?_
  refine lv_aload_n hx hb dMod_push_6 rfl (lv_at hl 0 rfl) ?_
  refine va_get (D := (dC, dI)) (ci := 6) (v := .int (nI D)) (C := RMod) (T := TMod) (N := 34) hx hb hts (fun w h => List.mem_cons_of_mem _ (layMod w h)) hown hK hP 0 rfl rfl 18 (by decide) (hts (.fieldLink RMod 126 "CallLedgerModel" "depth" "I") (List.mem_cons_of_mem _ gw662)) (fun _ h9 => h9) rfl dMod_push_7 ?_
  refine lv_imul hx hb dMod_push_10 ?_
  refine x_topi (y := nI (32 * D)) (x_mul32) ?_
  refine lv_aload_n hx hb dMod_push_11 rfl (lv_at hl 0 rfl) ?_
  refine va_get (D := (dC, dI)) (ci := 6) (v := .ref b16) (C := RMod) (T := TMod) (N := 34) hx hb hts (fun w h => List.mem_cons_of_mem _ (layMod w h)) hown hK hP 0 rfl rfl 20 (by decide) (hts (.fieldLink RMod 56 "CallLedgerModel" "heights" "[I") (List.mem_cons_of_mem _ gw664)) (fun _ h9 => h9) rfl dMod_push_12 ?_
  refine lv_aload_n hx hb dMod_push_15 rfl (lv_at hl 0 rfl) ?_
  refine va_get (D := (dC, dI)) (ci := 6) (v := .int (nI D)) (C := RMod) (T := TMod) (N := 34) hx hb hts (fun w h => List.mem_cons_of_mem _ (layMod w h)) hown hK hP 0 rfl rfl 18 (by decide) (hts (.fieldLink RMod 126 "CallLedgerModel" "depth" "I") (List.mem_cons_of_mem _ gw662)) (fun _ h9 => h9) rfl dMod_push_16 ?_
  refine x_iald (j := D) hx hb hK hP 2 0 rfl rfl rfl (by omega) (by omega) dMod_push_19 ?_
  refine x_topi (y := nI h) (by rw [hh]) ?_
  refine lv_iadd hx hb dMod_push_20 ?_
  refine x_topi (y := nI (32 * D + h)) (nI_add _ _) ?_
  refine lv_iload_n hx hb dMod_push_21 rfl (lv_at hl 1 rfl) ?_
  refine x_iast (j := 32 * D + h) hx hb hK hP hD hS 1 0 rfl rfl rfl (by omega) (by omega) dMod_push_22 (fun H locs hP hD hS => ?_)
  have hP : va_P (dC, dI) xCl [(m0, .inr (6, [.int f0, .int (nI nA), .ref b1, .ref b2, .ref b3, .ref b4, .ref b5, .ref b6, .ref b7, .int (nI kn), .ref b8, .int (nI ln), .ref b9, .ref b10, .ref b11, .ref b12, .ref b13, .ref b14, .int (nI D), .ref b15, .ref b16, .ref b17, .ref b18, .ref b19, .ref b20, .ref b21, .ref b22, .ref b23, .ref b24, .int (nI an), .int f2, .int f3, .int f4, .int f5])), (b15, .inl (kI, 256, .inl (upd sk (32 * D + h) v))), (b16, .inl (kI, 8, .inl (fun j => nI (ht j))))] H := hP
  have hD : va_D A [(m0, .inr (6, [.int f0, .int (nI nA), .ref b1, .ref b2, .ref b3, .ref b4, .ref b5, .ref b6, .ref b7, .int (nI kn), .ref b8, .int (nI ln), .ref b9, .ref b10, .ref b11, .ref b12, .ref b13, .ref b14, .int (nI D), .ref b15, .ref b16, .ref b17, .ref b18, .ref b19, .ref b20, .ref b21, .ref b22, .ref b23, .ref b24, .int (nI an), .int f2, .int f3, .int f4, .int f5])), (b15, .inl (kI, 256, .inl (upd sk (32 * D + h) v))), (b16, .inl (kI, 8, .inl (fun j => nI (ht j))))] := hD
  refine lv_aload_n hx hb dMod_push_23 rfl (lv_at hl 0 rfl) ?_
  refine va_get (D := (dC, dI)) (ci := 6) (v := .ref b16) (C := RMod) (T := TMod) (N := 34) hx hb hts (fun w h => List.mem_cons_of_mem _ (layMod w h)) hown hK hP 0 rfl rfl 20 (by decide) (hts (.fieldLink RMod 56 "CallLedgerModel" "heights" "[I") (List.mem_cons_of_mem _ gw664)) (fun _ h9 => h9) rfl dMod_push_24 ?_
  refine lv_aload_n hx hb dMod_push_27 rfl (lv_at hl 0 rfl) ?_
  refine va_get (D := (dC, dI)) (ci := 6) (v := .int (nI D)) (C := RMod) (T := TMod) (N := 34) hx hb hts (fun w h => List.mem_cons_of_mem _ (layMod w h)) hown hK hP 0 rfl rfl 18 (by decide) (hts (.fieldLink RMod 126 "CallLedgerModel" "depth" "I") (List.mem_cons_of_mem _ gw662)) (fun _ h9 => h9) rfl dMod_push_28 ?_
  refine lv_dup2_11 hx hb dMod_push_31 rfl rfl ?_
  refine x_iald (j := D) hx hb hK hP 2 0 rfl rfl rfl (by omega) (by omega) dMod_push_32 ?_
  refine x_topi (y := nI h) (by rw [hh]) ?_
  refine lv_iconst (v := 1) hx hb dMod_push_33 (by decide) ?_
  refine lv_iadd hx hb dMod_push_34 ?_
  refine x_topi (y := nI (h + 1)) (nI_1 _) ?_
  refine x_iast (j := D) hx hb hK hP hD hS 2 0 rfl rfl rfl (by omega) (by omega) dMod_push_35 (fun H locs hP hD hS => ?_)
  have hP : va_P (dC, dI) xCl [(m0, .inr (6, [.int f0, .int (nI nA), .ref b1, .ref b2, .ref b3, .ref b4, .ref b5, .ref b6, .ref b7, .int (nI kn), .ref b8, .int (nI ln), .ref b9, .ref b10, .ref b11, .ref b12, .ref b13, .ref b14, .int (nI D), .ref b15, .ref b16, .ref b17, .ref b18, .ref b19, .ref b20, .ref b21, .ref b22, .ref b23, .ref b24, .int (nI an), .int f2, .int f3, .int f4, .int f5])), (b15, .inl (kI, 256, .inl (upd sk (32 * D + h) v))), (b16, .inl (kI, 8, .inl (upd (fun j => nI (ht j)) D (nI (h + 1)))))] H := hP
  have hD : va_D A [(m0, .inr (6, [.int f0, .int (nI nA), .ref b1, .ref b2, .ref b3, .ref b4, .ref b5, .ref b6, .ref b7, .int (nI kn), .ref b8, .int (nI ln), .ref b9, .ref b10, .ref b11, .ref b12, .ref b13, .ref b14, .int (nI D), .ref b15, .ref b16, .ref b17, .ref b18, .ref b19, .ref b20, .ref b21, .ref b22, .ref b23, .ref b24, .int (nI an), .int f2, .int f3, .int f4, .int f5])), (b15, .inl (kI, 256, .inl (upd sk (32 * D + h) v))), (b16, .inl (kI, 8, .inl (upd (fun j => nI (ht j)) D (nI (h + 1)))))] := hD
  rw [(show upd (fun j => nI (ht j)) D (nI (h + 1)) = fun j => nI (va_up ht D (h + 1) j) from x_updL ht D (h + 1))] at hP hD
  have hP : va_P (dC, dI) xCl [(m0, .inr (6, [.int f0, .int (nI nA), .ref b1, .ref b2, .ref b3, .ref b4, .ref b5, .ref b6, .ref b7, .int (nI kn), .ref b8, .int (nI ln), .ref b9, .ref b10, .ref b11, .ref b12, .ref b13, .ref b14, .int (nI D), .ref b15, .ref b16, .ref b17, .ref b18, .ref b19, .ref b20, .ref b21, .ref b22, .ref b23, .ref b24, .int (nI an), .int f2, .int f3, .int f4, .int f5])), (b15, .inl (kI, 256, .inl (upd sk (32 * D + h) v))), (b16, .inl (kI, 8, .inl (fun j => nI (va_up ht D (h + 1) j))))] H := hP
  have hD : va_D A [(m0, .inr (6, [.int f0, .int (nI nA), .ref b1, .ref b2, .ref b3, .ref b4, .ref b5, .ref b6, .ref b7, .int (nI kn), .ref b8, .int (nI ln), .ref b9, .ref b10, .ref b11, .ref b12, .ref b13, .ref b14, .int (nI D), .ref b15, .ref b16, .ref b17, .ref b18, .ref b19, .ref b20, .ref b21, .ref b22, .ref b23, .ref b24, .int (nI an), .int f2, .int f3, .int f4, .int f5])), (b15, .inl (kI, 256, .inl (upd sk (32 * D + h) v))), (b16, .inl (kI, 8, .inl (fun j => nI (va_up ht D (h + 1) j))))] := hD
  exact hret  (()) _ _ _ (trivial) (hP.sub [0, 1, 2] rfl) (hD.sub [0, 1, 2] (by decide) rfl) hS dMod_push_36

set_option maxHeartbeats 4000000 in
set_option maxRecDepth 100000 in
theorem kM_pop (l : Launch) (dC : Nat → ClassId) (dI : Nat → Nat → Nat) (kI kJ kZ : ClassId) (m0 : Nat) (b1 : Nat) (b2 : Nat) (b3 : Nat) (b4 : Nat) (b5 : Nat) (b6 : Nat) (b7 : Nat) (b8 : Nat) (b9 : Nat) (b10 : Nat) (b11 : Nat) (b12 : Nat) (b13 : Nat) (b14 : Nat) (b15 : Nat) (b16 : Nat) (b17 : Nat) (b18 : Nat) (b19 : Nat) (b20 : Nat) (b21 : Nat) (b22 : Nat) (b23 : Nat) (b24 : Nat) (nA : Nat) (kn : Nat) (ln : Nat) (an : Nat) (f0 : Int32) (f2 : Int32) (f3 : Int32) (f4 : Int32) (f5 : Int32) (D : Nat) (sk : Nat → Int32) (ht : Nat → Nat) (h : Nat) (hD8 : D < 8) (hh : ht D = h) (hge : 1 ≤ h) (hle : h ≤ 32) :
    XM stX l yMod_pop wMod_pop { frames := 0, cells := 0, slots := 0, locals := 0 } (dC, dI) xCl (x_T kI kJ kZ) [(m0, .inr (6, [.int f0, .int (nI nA), .ref b1, .ref b2, .ref b3, .ref b4, .ref b5, .ref b6, .ref b7, .int (nI kn), .ref b8, .int (nI ln), .ref b9, .ref b10, .ref b11, .ref b12, .ref b13, .ref b14, .int (nI D), .ref b15, .ref b16, .ref b17, .ref b18, .ref b19, .ref b20, .ref b21, .ref b22, .ref b23, .ref b24, .int (nI an), .int f2, .int f3, .int f4, .int f5])), (b15, .inl (kI, 256, .inl sk)), (b16, .inl (kI, 8, .inl (fun j => nI (ht j))))] [.ref m0] 0 0 x_eI (fun (r : Int32) (u : Unit) => r = sk (32 * D + (h - 1))) (fun (u : Unit) => [(m0, .inr (6, [.int f0, .int (nI nA), .ref b1, .ref b2, .ref b3, .ref b4, .ref b5, .ref b6, .ref b7, .int (nI kn), .ref b8, .int (nI ln), .ref b9, .ref b10, .ref b11, .ref b12, .ref b13, .ref b14, .int (nI D), .ref b15, .ref b16, .ref b17, .ref b18, .ref b19, .ref b20, .ref b21, .ref b22, .ref b23, .ref b24, .int (nI an), .int f2, .int f3, .int f4, .int f5])), (b15, .inl (kI, 256, .inl sk)), (b16, .inl (kI, 8, .inl (fun j => nI (va_up ht D (h - 1) j))))]) := by
  refine XM.ofI (cc := cMod_pop) (maxL := 1) (by decide) rfl (Nat.le_of_ble_eq_true rfl) ?_
  intro p e s m below meth c A Q hx hb hr hml hown hts hlocks hin hA hK hP hD hX hS ls hl hret
  have hl : lv_has ls 1 [(0, .ref m0)] := hl
  refine lv_aload_n hx hb dMod_pop_0 rfl (lv_at hl 0 rfl) ?_
  refine va_get (D := (dC, dI)) (ci := 6) (v := .ref b16) (C := RMod) (T := TMod) (N := 34) hx hb hts (fun w h => List.mem_cons_of_mem _ (layMod w h)) hown hK hP 0 rfl rfl 20 (by decide) (hts (.fieldLink RMod 56 "CallLedgerModel" "heights" "[I") (List.mem_cons_of_mem _ gw664)) (fun _ h9 => h9) rfl dMod_pop_1 ?_
  refine lv_aload_n hx hb dMod_pop_4 rfl (lv_at hl 0 rfl) ?_
  refine va_get (D := (dC, dI)) (ci := 6) (v := .int (nI D)) (C := RMod) (T := TMod) (N := 34) hx hb hts (fun w h => List.mem_cons_of_mem _ (layMod w h)) hown hK hP 0 rfl rfl 18 (by decide) (hts (.fieldLink RMod 126 "CallLedgerModel" "depth" "I") (List.mem_cons_of_mem _ gw662)) (fun _ h9 => h9) rfl dMod_pop_5 ?_
  refine lv_dup2_11 hx hb dMod_pop_8 rfl rfl ?_
  refine x_iald (j := D) hx hb hK hP 2 0 rfl rfl rfl (by omega) (by omega) dMod_pop_9 ?_
  refine x_topi (y := nI h) (by rw [hh]) ?_
  refine lv_iconst (v := 1) hx hb dMod_pop_10 (by decide) ?_
  refine lv_isub hx hb dMod_pop_11 ?_
  refine x_topi (y := nI (h - 1)) (x_pred (by omega)) ?_
  refine x_iast (j := D) hx hb hK hP hD hS 2 0 rfl rfl rfl (by omega) (by omega) dMod_pop_12 (fun H locs hP hD hS => ?_)
  have hP : va_P (dC, dI) xCl [(m0, .inr (6, [.int f0, .int (nI nA), .ref b1, .ref b2, .ref b3, .ref b4, .ref b5, .ref b6, .ref b7, .int (nI kn), .ref b8, .int (nI ln), .ref b9, .ref b10, .ref b11, .ref b12, .ref b13, .ref b14, .int (nI D), .ref b15, .ref b16, .ref b17, .ref b18, .ref b19, .ref b20, .ref b21, .ref b22, .ref b23, .ref b24, .int (nI an), .int f2, .int f3, .int f4, .int f5])), (b15, .inl (kI, 256, .inl sk)), (b16, .inl (kI, 8, .inl (upd (fun j => nI (ht j)) D (nI (h - 1)))))] H := hP
  have hD : va_D A [(m0, .inr (6, [.int f0, .int (nI nA), .ref b1, .ref b2, .ref b3, .ref b4, .ref b5, .ref b6, .ref b7, .int (nI kn), .ref b8, .int (nI ln), .ref b9, .ref b10, .ref b11, .ref b12, .ref b13, .ref b14, .int (nI D), .ref b15, .ref b16, .ref b17, .ref b18, .ref b19, .ref b20, .ref b21, .ref b22, .ref b23, .ref b24, .int (nI an), .int f2, .int f3, .int f4, .int f5])), (b15, .inl (kI, 256, .inl sk)), (b16, .inl (kI, 8, .inl (upd (fun j => nI (ht j)) D (nI (h - 1)))))] := hD
  rw [(show upd (fun j => nI (ht j)) D (nI (h - 1)) = fun j => nI (va_up ht D (h - 1) j) from x_updL ht D (h - 1))] at hP hD
  have hP : va_P (dC, dI) xCl [(m0, .inr (6, [.int f0, .int (nI nA), .ref b1, .ref b2, .ref b3, .ref b4, .ref b5, .ref b6, .ref b7, .int (nI kn), .ref b8, .int (nI ln), .ref b9, .ref b10, .ref b11, .ref b12, .ref b13, .ref b14, .int (nI D), .ref b15, .ref b16, .ref b17, .ref b18, .ref b19, .ref b20, .ref b21, .ref b22, .ref b23, .ref b24, .int (nI an), .int f2, .int f3, .int f4, .int f5])), (b15, .inl (kI, 256, .inl sk)), (b16, .inl (kI, 8, .inl (fun j => nI (va_up ht D (h - 1) j))))] H := hP
  have hD : va_D A [(m0, .inr (6, [.int f0, .int (nI nA), .ref b1, .ref b2, .ref b3, .ref b4, .ref b5, .ref b6, .ref b7, .int (nI kn), .ref b8, .int (nI ln), .ref b9, .ref b10, .ref b11, .ref b12, .ref b13, .ref b14, .int (nI D), .ref b15, .ref b16, .ref b17, .ref b18, .ref b19, .ref b20, .ref b21, .ref b22, .ref b23, .ref b24, .int (nI an), .int f2, .int f3, .int f4, .int f5])), (b15, .inl (kI, 256, .inl sk)), (b16, .inl (kI, 8, .inl (fun j => nI (va_up ht D (h - 1) j))))] := hD
  refine lv_aload_n hx hb dMod_pop_13 rfl (lv_at hl 0 rfl) ?_
  refine va_get (D := (dC, dI)) (ci := 6) (v := .ref b15) (C := RMod) (T := TMod) (N := 34) hx hb hts (fun w h => List.mem_cons_of_mem _ (layMod w h)) hown hK hP 0 rfl rfl 19 (by decide) (hts (.fieldLink RMod 53 "CallLedgerModel" "stacks" "[I") (List.mem_cons_of_mem _ gw663)) (fun _ h9 => h9) rfl dMod_pop_14 ?_
  refine lv_bipush (v := 32) hx hb dMod_pop_17 (by decide) ?_
  refine lv_aload_n hx hb dMod_pop_19 rfl (lv_at hl 0 rfl) ?_
  refine va_get (D := (dC, dI)) (ci := 6) (v := .int (nI D)) (C := RMod) (T := TMod) (N := 34) hx hb hts (fun w h => List.mem_cons_of_mem _ (layMod w h)) hown hK hP 0 rfl rfl 18 (by decide) (hts (.fieldLink RMod 126 "CallLedgerModel" "depth" "I") (List.mem_cons_of_mem _ gw662)) (fun _ h9 => h9) rfl dMod_pop_20 ?_
  refine lv_imul hx hb dMod_pop_23 ?_
  refine x_topi (y := nI (32 * D)) (x_mul32) ?_
  refine lv_aload_n hx hb dMod_pop_24 rfl (lv_at hl 0 rfl) ?_
  refine va_get (D := (dC, dI)) (ci := 6) (v := .ref b16) (C := RMod) (T := TMod) (N := 34) hx hb hts (fun w h => List.mem_cons_of_mem _ (layMod w h)) hown hK hP 0 rfl rfl 20 (by decide) (hts (.fieldLink RMod 56 "CallLedgerModel" "heights" "[I") (List.mem_cons_of_mem _ gw664)) (fun _ h9 => h9) rfl dMod_pop_25 ?_
  refine lv_aload_n hx hb dMod_pop_28 rfl (lv_at hl 0 rfl) ?_
  refine va_get (D := (dC, dI)) (ci := 6) (v := .int (nI D)) (C := RMod) (T := TMod) (N := 34) hx hb hts (fun w h => List.mem_cons_of_mem _ (layMod w h)) hown hK hP 0 rfl rfl 18 (by decide) (hts (.fieldLink RMod 126 "CallLedgerModel" "depth" "I") (List.mem_cons_of_mem _ gw662)) (fun _ h9 => h9) rfl dMod_pop_29 ?_
  refine x_iald (j := D) hx hb hK hP 2 0 rfl rfl rfl (by omega) (by omega) dMod_pop_32 ?_
  refine x_topi (y := nI (h - 1)) (by rw [va_up_at]) ?_
  refine lv_iadd hx hb dMod_pop_33 ?_
  refine x_topi (y := nI (32 * D + (h - 1))) (nI_add _ _) ?_
  refine x_iald (j := 32 * D + (h - 1)) hx hb hK hP 1 0 rfl rfl rfl (by omega) (by omega) dMod_pop_34 ?_
  exact hret (sk (32 * D + (h - 1))) (()) _ _ _ (rfl) (hP.sub [0, 1, 2] rfl) (hD.sub [0, 1, 2] (by decide) rfl) hS dMod_pop_35

set_option maxHeartbeats 4000000 in
set_option maxRecDepth 100000 in
theorem kM_below (l : Launch) (dC : Nat → ClassId) (dI : Nat → Nat → Nat) (kI kJ kZ : ClassId) (m0 : Nat) (b1 : Nat) (b2 : Nat) (b3 : Nat) (b4 : Nat) (b5 : Nat) (b6 : Nat) (b7 : Nat) (b8 : Nat) (b9 : Nat) (b10 : Nat) (b11 : Nat) (b12 : Nat) (b13 : Nat) (b14 : Nat) (b15 : Nat) (b16 : Nat) (b17 : Nat) (b18 : Nat) (b19 : Nat) (b20 : Nat) (b21 : Nat) (b22 : Nat) (b23 : Nat) (b24 : Nat) (nA : Nat) (kn : Nat) (ln : Nat) (an : Nat) (f0 : Int32) (f2 : Int32) (f3 : Int32) (f4 : Int32) (f5 : Int32) (D : Nat) (sk : Nat → Int32) (ht : Nat → Nat) (h : Nat) (n : Nat) (hD8 : D < 8) (hh : ht D = h) (hn : n < h) (hle : h ≤ 32) :
    XM stX l yMod_below wMod_below { frames := 0, cells := 0, slots := 0, locals := 0 } (dC, dI) xCl (x_T kI kJ kZ) [(m0, .inr (6, [.int f0, .int (nI nA), .ref b1, .ref b2, .ref b3, .ref b4, .ref b5, .ref b6, .ref b7, .int (nI kn), .ref b8, .int (nI ln), .ref b9, .ref b10, .ref b11, .ref b12, .ref b13, .ref b14, .int (nI D), .ref b15, .ref b16, .ref b17, .ref b18, .ref b19, .ref b20, .ref b21, .ref b22, .ref b23, .ref b24, .int (nI an), .int f2, .int f3, .int f4, .int f5])), (b15, .inl (kI, 256, .inl sk)), (b16, .inl (kI, 8, .inl (fun j => nI (ht j))))] [.ref m0, .int (nI n)] 0 0 x_eI (fun (r : Int32) (u : Unit) => r = sk (32 * D + (h - 1 - n))) (fun (u : Unit) => [(m0, .inr (6, [.int f0, .int (nI nA), .ref b1, .ref b2, .ref b3, .ref b4, .ref b5, .ref b6, .ref b7, .int (nI kn), .ref b8, .int (nI ln), .ref b9, .ref b10, .ref b11, .ref b12, .ref b13, .ref b14, .int (nI D), .ref b15, .ref b16, .ref b17, .ref b18, .ref b19, .ref b20, .ref b21, .ref b22, .ref b23, .ref b24, .int (nI an), .int f2, .int f3, .int f4, .int f5])), (b15, .inl (kI, 256, .inl sk)), (b16, .inl (kI, 8, .inl (fun j => nI (ht j))))]) := by
  refine XM.ofI (cc := cMod_below) (maxL := 2) (by decide) rfl (Nat.le_of_ble_eq_true rfl) ?_
  intro p e s m below meth c A Q hx hb hr hml hown hts hlocks hin hA hK hP hD hX hS ls hl hret
  have hl : lv_has ls 2 [(0, .ref m0), (1, .int (nI n))] := hl
  refine lv_aload_n hx hb dMod_below_0 rfl (lv_at hl 0 rfl) ?_
  refine va_get (D := (dC, dI)) (ci := 6) (v := .ref b15) (C := RMod) (T := TMod) (N := 34) hx hb hts (fun w h => List.mem_cons_of_mem _ (layMod w h)) hown hK hP 0 rfl rfl 19 (by decide) (hts (.fieldLink RMod 53 "CallLedgerModel" "stacks" "[I") (List.mem_cons_of_mem _ gw663)) (fun _ h9 => h9) rfl dMod_below_1 ?_
  refine lv_bipush (v := 32) hx hb dMod_below_4 (by decide) ?_
  refine lv_aload_n hx hb dMod_below_6 rfl (lv_at hl 0 rfl) ?_
  refine va_get (D := (dC, dI)) (ci := 6) (v := .int (nI D)) (C := RMod) (T := TMod) (N := 34) hx hb hts (fun w h => List.mem_cons_of_mem _ (layMod w h)) hown hK hP 0 rfl rfl 18 (by decide) (hts (.fieldLink RMod 126 "CallLedgerModel" "depth" "I") (List.mem_cons_of_mem _ gw662)) (fun _ h9 => h9) rfl dMod_below_7 ?_
  refine lv_imul hx hb dMod_below_10 ?_
  refine x_topi (y := nI (32 * D)) (x_mul32) ?_
  refine lv_aload_n hx hb dMod_below_11 rfl (lv_at hl 0 rfl) ?_
  refine va_get (D := (dC, dI)) (ci := 6) (v := .ref b16) (C := RMod) (T := TMod) (N := 34) hx hb hts (fun w h => List.mem_cons_of_mem _ (layMod w h)) hown hK hP 0 rfl rfl 20 (by decide) (hts (.fieldLink RMod 56 "CallLedgerModel" "heights" "[I") (List.mem_cons_of_mem _ gw664)) (fun _ h9 => h9) rfl dMod_below_12 ?_
  refine lv_aload_n hx hb dMod_below_15 rfl (lv_at hl 0 rfl) ?_
  refine va_get (D := (dC, dI)) (ci := 6) (v := .int (nI D)) (C := RMod) (T := TMod) (N := 34) hx hb hts (fun w h => List.mem_cons_of_mem _ (layMod w h)) hown hK hP 0 rfl rfl 18 (by decide) (hts (.fieldLink RMod 126 "CallLedgerModel" "depth" "I") (List.mem_cons_of_mem _ gw662)) (fun _ h9 => h9) rfl dMod_below_16 ?_
  refine x_iald (j := D) hx hb hK hP 2 0 rfl rfl rfl (by omega) (by omega) dMod_below_19 ?_
  refine x_topi (y := nI h) (by rw [hh]) ?_
  refine lv_iadd hx hb dMod_below_20 ?_
  refine x_topi (y := nI (32 * D + h)) (nI_add _ _) ?_
  refine lv_iconst (v := 1) hx hb dMod_below_21 (by decide) ?_
  refine lv_isub hx hb dMod_below_22 ?_
  refine x_topi (y := nI (32 * D + (h - 1))) (m_ix1 (by omega)) ?_
  refine lv_iload_n hx hb dMod_below_23 rfl (lv_at hl 1 rfl) ?_
  refine lv_isub hx hb dMod_below_24 ?_
  refine x_topi (y := nI (32 * D + (h - 1 - n))) (m_ix2 (by omega)) ?_
  refine x_iald (j := 32 * D + (h - 1 - n)) hx hb hK hP 1 0 rfl rfl rfl (by omega) (by omega) dMod_below_25 ?_
  exact hret (sk (32 * D + (h - 1 - n))) (()) _ _ _ (rfl) (hP.sub [0, 1, 2] rfl) (hD.sub [0, 1, 2] (by decide) rfl) hS dMod_below_26

set_option maxHeartbeats 4000000 in
set_option maxRecDepth 100000 in
theorem kM_swap (l : Launch) (dC : Nat → ClassId) (dI : Nat → Nat → Nat) (kI kJ kZ : ClassId) (m0 : Nat) (b1 : Nat) (b2 : Nat) (b3 : Nat) (b4 : Nat) (b5 : Nat) (b6 : Nat) (b7 : Nat) (b8 : Nat) (b9 : Nat) (b10 : Nat) (b11 : Nat) (b12 : Nat) (b13 : Nat) (b14 : Nat) (b15 : Nat) (b16 : Nat) (b17 : Nat) (b18 : Nat) (b19 : Nat) (b20 : Nat) (b21 : Nat) (b22 : Nat) (b23 : Nat) (b24 : Nat) (nA : Nat) (kn : Nat) (ln : Nat) (an : Nat) (f0 : Int32) (f2 : Int32) (f3 : Int32) (f4 : Int32) (f5 : Int32) (D : Nat) (sk : Nat → Int32) (ht : Nat → Nat) (h : Nat) (n : Nat) (hD8 : D < 8) (hh : ht D = h) (hn : n < h) (hle : h ≤ 32) :
    XM stX l yMod_swap wMod_swap { frames := 0, cells := 0, slots := 0, locals := 0 } (dC, dI) xCl (x_T kI kJ kZ) [(m0, .inr (6, [.int f0, .int (nI nA), .ref b1, .ref b2, .ref b3, .ref b4, .ref b5, .ref b6, .ref b7, .int (nI kn), .ref b8, .int (nI ln), .ref b9, .ref b10, .ref b11, .ref b12, .ref b13, .ref b14, .int (nI D), .ref b15, .ref b16, .ref b17, .ref b18, .ref b19, .ref b20, .ref b21, .ref b22, .ref b23, .ref b24, .int (nI an), .int f2, .int f3, .int f4, .int f5])), (b15, .inl (kI, 256, .inl sk)), (b16, .inl (kI, 8, .inl (fun j => nI (ht j))))] [.ref m0, .int (nI n)] 0 0 x_eV (fun (r : Unit) (u : Unit) => True) (fun (u : Unit) => [(m0, .inr (6, [.int f0, .int (nI nA), .ref b1, .ref b2, .ref b3, .ref b4, .ref b5, .ref b6, .ref b7, .int (nI kn), .ref b8, .int (nI ln), .ref b9, .ref b10, .ref b11, .ref b12, .ref b13, .ref b14, .int (nI D), .ref b15, .ref b16, .ref b17, .ref b18, .ref b19, .ref b20, .ref b21, .ref b22, .ref b23, .ref b24, .int (nI an), .int f2, .int f3, .int f4, .int f5])), (b15, .inl (kI, 256, .inl (upd (upd sk (32 * D + (h - 1)) (sk (32 * D + (h - 1 - n)))) (32 * D + (h - 1 - n)) (sk (32 * D + (h - 1)))))), (b16, .inl (kI, 8, .inl (fun j => nI (ht j))))]) := by
  refine XM.ofV (cc := cMod_swap) (maxL := 4) (by decide) rfl (Nat.le_of_ble_eq_true rfl) ?_
  intro p e s m below meth c A Q hx hb hr hml hown hts hlocks hin hA hK hP hD hX hS ls hl hret
  have hl : lv_has ls 4 [(0, .ref m0), (1, .int (nI n))] := hl
  refine lv_bipush (v := 32) hx hb dMod_swap_0 (by decide) ?_
  refine lv_aload_n hx hb dMod_swap_2 rfl (lv_at hl 0 rfl) ?_
  refine va_get (D := (dC, dI)) (ci := 6) (v := .int (nI D)) (C := RMod) (T := TMod) (N := 34) hx hb hts (fun w h => List.mem_cons_of_mem _ (layMod w h)) hown hK hP 0 rfl rfl 18 (by decide) (hts (.fieldLink RMod 126 "CallLedgerModel" "depth" "I") (List.mem_cons_of_mem _ gw662)) (fun _ h9 => h9) rfl dMod_swap_3 ?_
  refine lv_imul hx hb dMod_swap_6 ?_
  refine x_topi (y := nI (32 * D)) (x_mul32) ?_
  refine lv_aload_n hx hb dMod_swap_7 rfl (lv_at hl 0 rfl) ?_
  refine va_get (D := (dC, dI)) (ci := 6) (v := .ref b16) (C := RMod) (T := TMod) (N := 34) hx hb hts (fun w h => List.mem_cons_of_mem _ (layMod w h)) hown hK hP 0 rfl rfl 20 (by decide) (hts (.fieldLink RMod 56 "CallLedgerModel" "heights" "[I") (List.mem_cons_of_mem _ gw664)) (fun _ h9 => h9) rfl dMod_swap_8 ?_
  refine lv_aload_n hx hb dMod_swap_11 rfl (lv_at hl 0 rfl) ?_
  refine va_get (D := (dC, dI)) (ci := 6) (v := .int (nI D)) (C := RMod) (T := TMod) (N := 34) hx hb hts (fun w h => List.mem_cons_of_mem _ (layMod w h)) hown hK hP 0 rfl rfl 18 (by decide) (hts (.fieldLink RMod 126 "CallLedgerModel" "depth" "I") (List.mem_cons_of_mem _ gw662)) (fun _ h9 => h9) rfl dMod_swap_12 ?_
  refine x_iald (j := D) hx hb hK hP 2 0 rfl rfl rfl (by omega) (by omega) dMod_swap_15 ?_
  refine x_topi (y := nI h) (by rw [hh]) ?_
  refine lv_iadd hx hb dMod_swap_16 ?_
  refine x_topi (y := nI (32 * D + h)) (nI_add _ _) ?_
  refine lv_iconst (v := 1) hx hb dMod_swap_17 (by decide) ?_
  refine lv_isub hx hb dMod_swap_18 ?_
  refine x_topi (y := nI (32 * D + (h - 1))) (m_ix1 (by omega)) ?_
  refine lv_istore_n (lv' := [(2, .int (nI (32 * D + (h - 1)))), (0, .ref m0), (1, .int (nI n))]) hx hb dMod_swap_19 rfl hl (by decide) rfl (fun ls hl => ?_)
  refine lv_aload_n hx hb dMod_swap_20 rfl (lv_at hl 1 rfl) ?_
  refine va_get (D := (dC, dI)) (ci := 6) (v := .ref b15) (C := RMod) (T := TMod) (N := 34) hx hb hts (fun w h => List.mem_cons_of_mem _ (layMod w h)) hown hK hP 0 rfl rfl 19 (by decide) (hts (.fieldLink RMod 53 "CallLedgerModel" "stacks" "[I") (List.mem_cons_of_mem _ gw663)) (fun _ h9 => h9) rfl dMod_swap_21 ?_
  refine lv_iload_n hx hb dMod_swap_24 rfl (lv_at hl 0 rfl) ?_
  refine x_iald (j := 32 * D + (h - 1)) hx hb hK hP 1 0 rfl rfl rfl (by omega) (by omega) dMod_swap_25 ?_
  refine lv_istore_n (lv' := [(3, .int (sk (32 * D + (h - 1)))), (2, .int (nI (32 * D + (h - 1)))), (0, .ref m0), (1, .int (nI n))]) hx hb dMod_swap_26 rfl hl (by decide) rfl (fun ls hl => ?_)
  refine lv_aload_n hx hb dMod_swap_27 rfl (lv_at hl 2 rfl) ?_
  refine va_get (D := (dC, dI)) (ci := 6) (v := .ref b15) (C := RMod) (T := TMod) (N := 34) hx hb hts (fun w h => List.mem_cons_of_mem _ (layMod w h)) hown hK hP 0 rfl rfl 19 (by decide) (hts (.fieldLink RMod 53 "CallLedgerModel" "stacks" "[I") (List.mem_cons_of_mem _ gw663)) (fun _ h9 => h9) rfl dMod_swap_28 ?_
  refine lv_iload_n hx hb dMod_swap_31 rfl (lv_at hl 1 rfl) ?_
  refine lv_aload_n hx hb dMod_swap_32 rfl (lv_at hl 2 rfl) ?_
  refine va_get (D := (dC, dI)) (ci := 6) (v := .ref b15) (C := RMod) (T := TMod) (N := 34) hx hb hts (fun w h => List.mem_cons_of_mem _ (layMod w h)) hown hK hP 0 rfl rfl 19 (by decide) (hts (.fieldLink RMod 53 "CallLedgerModel" "stacks" "[I") (List.mem_cons_of_mem _ gw663)) (fun _ h9 => h9) rfl dMod_swap_33 ?_
  refine lv_iload_n hx hb dMod_swap_36 rfl (lv_at hl 1 rfl) ?_
  refine lv_iload_n hx hb dMod_swap_37 rfl (lv_at hl 3 rfl) ?_
  refine lv_isub hx hb dMod_swap_38 ?_
  refine x_topi (y := nI (32 * D + (h - 1 - n))) (m_ix2 (by omega)) ?_
  refine x_iald (j := 32 * D + (h - 1 - n)) hx hb hK hP 1 0 rfl rfl rfl (by omega) (by omega) dMod_swap_39 ?_
  refine x_iast (j := 32 * D + (h - 1)) hx hb hK hP hD hS 1 0 rfl rfl rfl (by omega) (by omega) dMod_swap_40 (fun H locs hP hD hS => ?_)
  have hP : va_P (dC, dI) xCl [(m0, .inr (6, [.int f0, .int (nI nA), .ref b1, .ref b2, .ref b3, .ref b4, .ref b5, .ref b6, .ref b7, .int (nI kn), .ref b8, .int (nI ln), .ref b9, .ref b10, .ref b11, .ref b12, .ref b13, .ref b14, .int (nI D), .ref b15, .ref b16, .ref b17, .ref b18, .ref b19, .ref b20, .ref b21, .ref b22, .ref b23, .ref b24, .int (nI an), .int f2, .int f3, .int f4, .int f5])), (b15, .inl (kI, 256, .inl (upd sk (32 * D + (h - 1)) (sk (32 * D + (h - 1 - n)))))), (b16, .inl (kI, 8, .inl (fun j => nI (ht j))))] H := hP
  have hD : va_D A [(m0, .inr (6, [.int f0, .int (nI nA), .ref b1, .ref b2, .ref b3, .ref b4, .ref b5, .ref b6, .ref b7, .int (nI kn), .ref b8, .int (nI ln), .ref b9, .ref b10, .ref b11, .ref b12, .ref b13, .ref b14, .int (nI D), .ref b15, .ref b16, .ref b17, .ref b18, .ref b19, .ref b20, .ref b21, .ref b22, .ref b23, .ref b24, .int (nI an), .int f2, .int f3, .int f4, .int f5])), (b15, .inl (kI, 256, .inl (upd sk (32 * D + (h - 1)) (sk (32 * D + (h - 1 - n)))))), (b16, .inl (kI, 8, .inl (fun j => nI (ht j))))] := hD
  refine lv_aload_n hx hb dMod_swap_41 rfl (lv_at hl 2 rfl) ?_
  refine va_get (D := (dC, dI)) (ci := 6) (v := .ref b15) (C := RMod) (T := TMod) (N := 34) hx hb hts (fun w h => List.mem_cons_of_mem _ (layMod w h)) hown hK hP 0 rfl rfl 19 (by decide) (hts (.fieldLink RMod 53 "CallLedgerModel" "stacks" "[I") (List.mem_cons_of_mem _ gw663)) (fun _ h9 => h9) rfl dMod_swap_42 ?_
  refine lv_iload_n hx hb dMod_swap_45 rfl (lv_at hl 1 rfl) ?_
  refine lv_iload_n hx hb dMod_swap_46 rfl (lv_at hl 3 rfl) ?_
  refine lv_isub hx hb dMod_swap_47 ?_
  refine x_topi (y := nI (32 * D + (h - 1 - n))) (m_ix2 (by omega)) ?_
  refine lv_iload_n hx hb dMod_swap_48 rfl (lv_at hl 0 rfl) ?_
  refine x_iast (j := 32 * D + (h - 1 - n)) hx hb hK hP hD hS 1 0 rfl rfl rfl (by omega) (by omega) dMod_swap_49 (fun H locs hP hD hS => ?_)
  have hP : va_P (dC, dI) xCl [(m0, .inr (6, [.int f0, .int (nI nA), .ref b1, .ref b2, .ref b3, .ref b4, .ref b5, .ref b6, .ref b7, .int (nI kn), .ref b8, .int (nI ln), .ref b9, .ref b10, .ref b11, .ref b12, .ref b13, .ref b14, .int (nI D), .ref b15, .ref b16, .ref b17, .ref b18, .ref b19, .ref b20, .ref b21, .ref b22, .ref b23, .ref b24, .int (nI an), .int f2, .int f3, .int f4, .int f5])), (b15, .inl (kI, 256, .inl (upd (upd sk (32 * D + (h - 1)) (sk (32 * D + (h - 1 - n)))) (32 * D + (h - 1 - n)) (sk (32 * D + (h - 1)))))), (b16, .inl (kI, 8, .inl (fun j => nI (ht j))))] H := hP
  have hD : va_D A [(m0, .inr (6, [.int f0, .int (nI nA), .ref b1, .ref b2, .ref b3, .ref b4, .ref b5, .ref b6, .ref b7, .int (nI kn), .ref b8, .int (nI ln), .ref b9, .ref b10, .ref b11, .ref b12, .ref b13, .ref b14, .int (nI D), .ref b15, .ref b16, .ref b17, .ref b18, .ref b19, .ref b20, .ref b21, .ref b22, .ref b23, .ref b24, .int (nI an), .int f2, .int f3, .int f4, .int f5])), (b15, .inl (kI, 256, .inl (upd (upd sk (32 * D + (h - 1)) (sk (32 * D + (h - 1 - n)))) (32 * D + (h - 1 - n)) (sk (32 * D + (h - 1)))))), (b16, .inl (kI, 8, .inl (fun j => nI (ht j))))] := hD
  exact hret  (()) _ _ _ (trivial) (hP.sub [0, 1, 2] rfl) (hD.sub [0, 1, 2] (by decide) rfl) hS dMod_swap_50

set_option maxHeartbeats 4000000 in
set_option maxRecDepth 100000 in
theorem kM_endAT (l : Launch) (dC : Nat → ClassId) (dI : Nat → Nat → Nat) (kI kJ kZ : ClassId) (m0 : Nat) (b1 : Nat) (b2 : Nat) (b3 : Nat) (b4 : Nat) (b5 : Nat) (b6 : Nat) (b7 : Nat) (b8 : Nat) (b9 : Nat) (b10 : Nat) (b11 : Nat) (b12 : Nat) (b13 : Nat) (b14 : Nat) (b15 : Nat) (b16 : Nat) (b17 : Nat) (b18 : Nat) (b19 : Nat) (b20 : Nat) (b21 : Nat) (b22 : Nat) (b23 : Nat) (b24 : Nat) (nA : Nat) (kn : Nat) (ln : Nat) (an : Nat) (f0 : Int32) (f2 : Int32) (f3 : Int32) (f4 : Int32) (f5 : Int32) (v : Int32) (gg : Nat → Nat)  :
    XM stX l yMod_end wMod_end { frames := 0, cells := 0, slots := 0, locals := 0 } (dC, dI) xCl (x_T kI kJ kZ) [(m0, .inr (6, [.int f0, .int (nI nA), .ref b1, .ref b2, .ref b3, .ref b4, .ref b5, .ref b6, .ref b7, .int (nI kn), .ref b8, .int (nI ln), .ref b9, .ref b10, .ref b11, .ref b12, .ref b13, .ref b14, .int (nI 0), .ref b15, .ref b16, .ref b17, .ref b18, .ref b19, .ref b20, .ref b21, .ref b22, .ref b23, .ref b24, .int (nI an), .int f2, .int f3, .int f4, .int f5])), (b22, .inl (kI, 8, .inl (fun j => nI (gg j))))] [.ref m0, .int 0, .int v] 0 0 x_eV (fun (r : Unit) (u : Unit) => True) (fun (u : Unit) => [(m0, .inr (6, [.int f0, .int (nI nA), .ref b1, .ref b2, .ref b3, .ref b4, .ref b5, .ref b6, .ref b7, .int (nI kn), .ref b8, .int (nI ln), .ref b9, .ref b10, .ref b11, .ref b12, .ref b13, .ref b14, .int (-1), .ref b15, .ref b16, .ref b17, .ref b18, .ref b19, .ref b20, .ref b21, .ref b22, .ref b23, .ref b24, .int (nI an), .int 0, .int v, .int (nI (gg 0)), .int f5])), (b22, .inl (kI, 8, .inl (fun j => nI (gg j))))]) := by
  refine XM.ofV (cc := cMod_end) (maxL := 5) (by decide) rfl (Nat.le_of_ble_eq_true rfl) ?_
  intro p e s m below meth c A Q hx hb hr hml hown hts hlocks hin hA hK hP hD hX hS ls hl hret
  have hl : lv_has ls 5 [(0, .ref m0), (1, .int 0), (2, .int v)] := hl
  refine lv_iload_n hx hb dMod_end_0 rfl (lv_at hl 1 rfl) ?_
  refine lv_if_le (tgt := 8) hx hb dMod_end_1 (by decide) (fun c1 => ?_) (fun c1 => ?_)
  · refine lv_iload_n hx hb dMod_end_8 rfl (lv_at hl 1 rfl) ?_
    refine lv_iconst (v := 1) hx hb dMod_end_9 (by decide) ?_
    refine lv_icmp_le (tgt := 17) hx hb dMod_end_10 (by decide) (fun c10 => ?_) (fun c10 => ?_)
    · refine lv_aload_n hx hb dMod_end_17 rfl (lv_at hl 0 rfl) ?_
      refine va_get (D := (dC, dI)) (ci := 6) (v := .ref b22) (C := RMod) (T := TMod) (N := 34) hx hb hts (fun w h => List.mem_cons_of_mem _ (layMod w h)) hown hK hP 0 rfl rfl 26 (by decide) (hts (.fieldLink RMod 74 "CallLedgerModel" "gases" "[I") (List.mem_cons_of_mem _ gw670)) (fun _ h9 => h9) rfl dMod_end_18 ?_
      refine lv_aload_n hx hb dMod_end_21 rfl (lv_at hl 0 rfl) ?_
      refine va_get (D := (dC, dI)) (ci := 6) (v := .int (nI 0)) (C := RMod) (T := TMod) (N := 34) hx hb hts (fun w h => List.mem_cons_of_mem _ (layMod w h)) hown hK hP 0 rfl rfl 18 (by decide) (hts (.fieldLink RMod 126 "CallLedgerModel" "depth" "I") (List.mem_cons_of_mem _ gw662)) (fun _ h9 => h9) rfl dMod_end_22 ?_
      refine x_iald (j := 0) hx hb hK hP 1 0 rfl rfl rfl (by omega) (by omega) dMod_end_25 ?_
      refine lv_istore_n (lv' := [(3, .int (nI (gg 0))), (0, .ref m0), (1, .int 0), (2, .int v)]) hx hb dMod_end_26 rfl hl (by decide) rfl (fun ls hl => ?_)
      refine lv_iload_n hx hb dMod_end_27 rfl (lv_at hl 2 rfl) ?_
      refine lv_iconst (v := 1) hx hb dMod_end_28 (by decide) ?_
      refine lv_icmp_le (tgt := 36) hx hb dMod_end_29 (by decide) (fun c29 => ?_) (fun c29 => ?_)
      · refine lv_iload_n hx hb dMod_end_36 rfl (lv_at hl 3 rfl) ?_
        refine lv_istore (lv' := [(4, .int v), (3, .int (nI (gg 0))), (0, .ref m0), (1, .int 0), (2, .int v)]) hx hb dMod_end_37 hl (by decide) rfl (fun ls hl => ?_)
        refine lv_aload_n hx hb dMod_end_39 rfl (lv_at hl 2 rfl) ?_
        refine va_get (D := (dC, dI)) (ci := 6) (v := .int (nI 0)) (C := RMod) (T := TMod) (N := 34) hx hb hts (fun w h => List.mem_cons_of_mem _ (layMod w h)) hown hK hP 0 rfl rfl 18 (by decide) (hts (.fieldLink RMod 126 "CallLedgerModel" "depth" "I") (List.mem_cons_of_mem _ gw662)) (fun _ h9 => h9) rfl dMod_end_40 ?_
        refine lv_if_ne (tgt := 68) hx hb dMod_end_43 (by decide) (fun c43 => ?_) (fun c43 => ?_)
        · have c43 : ¬ (0 = 0) := fun z9 => c43 ((nI_eq (a := 0) (b := 0) (by omega) (by omega)).mpr z9)
          exfalso; omega
        · have c43 : 0 = 0 := (nI_eq (a := 0) (b := 0) (by omega) (by omega)).mp c43
          refine lv_aload_n hx hb dMod_end_46 rfl (lv_at hl 2 rfl) ?_
          refine lv_iload_n hx hb dMod_end_47 rfl (lv_at hl 3 rfl) ?_
          refine va_put (D := (dC, dI)) (ci := 6) (v := .int 0) (ty := .int) (C := RMod) (T := TMod) (N := 34) hx hb hts (fun w h => List.mem_cons_of_mem _ (layMod w h)) tyMod tykMod nmMod hown hK hP hD hS 0 rfl rfl 30 (by decide) (hts (.fieldLink RMod 132 "CallLedgerModel" "ended" "I") (List.mem_cons_of_mem _ gw674)) (fun _ h9 => h9) rfl (by decide +kernel) rfl rfl (Nat.le_of_ble_eq_true rfl) dMod_end_48 (fun H locs hP hD hS => ?_)
          have hP : va_P (dC, dI) xCl [(m0, .inr (6, [.int f0, .int (nI nA), .ref b1, .ref b2, .ref b3, .ref b4, .ref b5, .ref b6, .ref b7, .int (nI kn), .ref b8, .int (nI ln), .ref b9, .ref b10, .ref b11, .ref b12, .ref b13, .ref b14, .int (nI 0), .ref b15, .ref b16, .ref b17, .ref b18, .ref b19, .ref b20, .ref b21, .ref b22, .ref b23, .ref b24, .int (nI an), .int 0, .int f3, .int f4, .int f5])), (b22, .inl (kI, 8, .inl (fun j => nI (gg j))))] H := hP
          have hD : va_D A [(m0, .inr (6, [.int f0, .int (nI nA), .ref b1, .ref b2, .ref b3, .ref b4, .ref b5, .ref b6, .ref b7, .int (nI kn), .ref b8, .int (nI ln), .ref b9, .ref b10, .ref b11, .ref b12, .ref b13, .ref b14, .int (nI 0), .ref b15, .ref b16, .ref b17, .ref b18, .ref b19, .ref b20, .ref b21, .ref b22, .ref b23, .ref b24, .int (nI an), .int 0, .int f3, .int f4, .int f5])), (b22, .inl (kI, 8, .inl (fun j => nI (gg j))))] := hD
          refine lv_aload_n hx hb dMod_end_51 rfl (lv_at hl 2 rfl) ?_
          refine lv_iload hx hb dMod_end_52 (lv_at hl 0 rfl) ?_
          refine va_put (D := (dC, dI)) (ci := 6) (v := .int v) (ty := .int) (C := RMod) (T := TMod) (N := 34) hx hb hts (fun w h => List.mem_cons_of_mem _ (layMod w h)) tyMod tykMod nmMod hown hK hP hD hS 0 rfl rfl 31 (by decide) (hts (.fieldLink RMod 123 "CallLedgerModel" "result" "I") (List.mem_cons_of_mem _ gw675)) (fun _ h9 => h9) rfl (by decide +kernel) rfl rfl (Nat.le_of_ble_eq_true rfl) dMod_end_54 (fun H locs hP hD hS => ?_)
          have hP : va_P (dC, dI) xCl [(m0, .inr (6, [.int f0, .int (nI nA), .ref b1, .ref b2, .ref b3, .ref b4, .ref b5, .ref b6, .ref b7, .int (nI kn), .ref b8, .int (nI ln), .ref b9, .ref b10, .ref b11, .ref b12, .ref b13, .ref b14, .int (nI 0), .ref b15, .ref b16, .ref b17, .ref b18, .ref b19, .ref b20, .ref b21, .ref b22, .ref b23, .ref b24, .int (nI an), .int 0, .int v, .int f4, .int f5])), (b22, .inl (kI, 8, .inl (fun j => nI (gg j))))] H := hP
          have hD : va_D A [(m0, .inr (6, [.int f0, .int (nI nA), .ref b1, .ref b2, .ref b3, .ref b4, .ref b5, .ref b6, .ref b7, .int (nI kn), .ref b8, .int (nI ln), .ref b9, .ref b10, .ref b11, .ref b12, .ref b13, .ref b14, .int (nI 0), .ref b15, .ref b16, .ref b17, .ref b18, .ref b19, .ref b20, .ref b21, .ref b22, .ref b23, .ref b24, .int (nI an), .int 0, .int v, .int f4, .int f5])), (b22, .inl (kI, 8, .inl (fun j => nI (gg j))))] := hD
          refine lv_aload_n hx hb dMod_end_57 rfl (lv_at hl 2 rfl) ?_
          refine lv_iload_n hx hb dMod_end_58 rfl (lv_at hl 1 rfl) ?_
          refine va_put (D := (dC, dI)) (ci := 6) (v := .int (nI (gg 0))) (ty := .int) (C := RMod) (T := TMod) (N := 34) hx hb hts (fun w h => List.mem_cons_of_mem _ (layMod w h)) tyMod tykMod nmMod hown hK hP hD hS 0 rfl rfl 32 (by decide) (hts (.fieldLink RMod 135 "CallLedgerModel" "left" "I") (List.mem_cons_of_mem _ gw676)) (fun _ h9 => h9) rfl (by decide +kernel) rfl rfl (Nat.le_of_ble_eq_true rfl) dMod_end_59 (fun H locs hP hD hS => ?_)
          have hP : va_P (dC, dI) xCl [(m0, .inr (6, [.int f0, .int (nI nA), .ref b1, .ref b2, .ref b3, .ref b4, .ref b5, .ref b6, .ref b7, .int (nI kn), .ref b8, .int (nI ln), .ref b9, .ref b10, .ref b11, .ref b12, .ref b13, .ref b14, .int (nI 0), .ref b15, .ref b16, .ref b17, .ref b18, .ref b19, .ref b20, .ref b21, .ref b22, .ref b23, .ref b24, .int (nI an), .int 0, .int v, .int (nI (gg 0)), .int f5])), (b22, .inl (kI, 8, .inl (fun j => nI (gg j))))] H := hP
          have hD : va_D A [(m0, .inr (6, [.int f0, .int (nI nA), .ref b1, .ref b2, .ref b3, .ref b4, .ref b5, .ref b6, .ref b7, .int (nI kn), .ref b8, .int (nI ln), .ref b9, .ref b10, .ref b11, .ref b12, .ref b13, .ref b14, .int (nI 0), .ref b15, .ref b16, .ref b17, .ref b18, .ref b19, .ref b20, .ref b21, .ref b22, .ref b23, .ref b24, .int (nI an), .int 0, .int v, .int (nI (gg 0)), .int f5])), (b22, .inl (kI, 8, .inl (fun j => nI (gg j))))] := hD
          refine lv_aload_n hx hb dMod_end_62 rfl (lv_at hl 2 rfl) ?_
          refine lv_iconst (v := (-1)) hx hb dMod_end_63 (by decide) ?_
          refine va_put (D := (dC, dI)) (ci := 6) (v := .int (-1)) (ty := .int) (C := RMod) (T := TMod) (N := 34) hx hb hts (fun w h => List.mem_cons_of_mem _ (layMod w h)) tyMod tykMod nmMod hown hK hP hD hS 0 rfl rfl 18 (by decide) (hts (.fieldLink RMod 126 "CallLedgerModel" "depth" "I") (List.mem_cons_of_mem _ gw662)) (fun _ h9 => h9) rfl (by decide +kernel) rfl rfl (Nat.le_of_ble_eq_true rfl) dMod_end_64 (fun H locs hP hD hS => ?_)
          have hP : va_P (dC, dI) xCl [(m0, .inr (6, [.int f0, .int (nI nA), .ref b1, .ref b2, .ref b3, .ref b4, .ref b5, .ref b6, .ref b7, .int (nI kn), .ref b8, .int (nI ln), .ref b9, .ref b10, .ref b11, .ref b12, .ref b13, .ref b14, .int (-1), .ref b15, .ref b16, .ref b17, .ref b18, .ref b19, .ref b20, .ref b21, .ref b22, .ref b23, .ref b24, .int (nI an), .int 0, .int v, .int (nI (gg 0)), .int f5])), (b22, .inl (kI, 8, .inl (fun j => nI (gg j))))] H := hP
          have hD : va_D A [(m0, .inr (6, [.int f0, .int (nI nA), .ref b1, .ref b2, .ref b3, .ref b4, .ref b5, .ref b6, .ref b7, .int (nI kn), .ref b8, .int (nI ln), .ref b9, .ref b10, .ref b11, .ref b12, .ref b13, .ref b14, .int (-1), .ref b15, .ref b16, .ref b17, .ref b18, .ref b19, .ref b20, .ref b21, .ref b22, .ref b23, .ref b24, .int (nI an), .int 0, .int v, .int (nI (gg 0)), .int f5])), (b22, .inl (kI, 8, .inl (fun j => nI (gg j))))] := hD
          exact hret  (()) _ _ _ (trivial) (hP.sub [0, 1] rfl) (hD.sub [0, 1] (by decide) rfl) hS dMod_end_67
      · exact absurd c29 (by decide)
    · exact absurd c10 (by decide)
  · exact absurd c1 (by decide)

set_option maxHeartbeats 4000000 in
set_option maxRecDepth 100000 in
theorem kM_endBT (l : Launch) (dC : Nat → ClassId) (dI : Nat → Nat → Nat) (kI kJ kZ : ClassId) (m0 : Nat) (b1 : Nat) (b2 : Nat) (b3 : Nat) (b4 : Nat) (b5 : Nat) (b6 : Nat) (b7 : Nat) (b8 : Nat) (b9 : Nat) (b10 : Nat) (b11 : Nat) (b12 : Nat) (b13 : Nat) (b14 : Nat) (b15 : Nat) (b16 : Nat) (b17 : Nat) (b18 : Nat) (b19 : Nat) (b20 : Nat) (b21 : Nat) (b22 : Nat) (b23 : Nat) (b24 : Nat) (nA : Nat) (kn : Nat) (ln : Nat) (an : Nat) (f0 : Int32) (f2 : Int32) (f3 : Int32) (f4 : Int32) (f5 : Int32) (v : Int32) (bal : Nat → Int32) (ka : Nat → Int32) (kN : Nat → Int32) (kv : Nat → Int32) (oB : Nat → Int32) (oA : Nat → Int32) (oN : Nat → Int32) (oV : Nat → Int32) (oK : Nat → Nat) (oL : Nat → Nat) (gg : Nat → Nat) (hoK : oK 0 ≤ 500) :
    XM stX l yMod_end wMod_end { frames := 1, cells := 0, slots := 0, locals := 21 } (dC, dI) xCl (x_T kI kJ kZ) [(m0, .inr (6, [.int f0, .int (nI nA), .ref b1, .ref b2, .ref b3, .ref b4, .ref b5, .ref b6, .ref b7, .int (nI kn), .ref b8, .int (nI ln), .ref b9, .ref b10, .ref b11, .ref b12, .ref b13, .ref b14, .int (nI 0), .ref b15, .ref b16, .ref b17, .ref b18, .ref b19, .ref b20, .ref b21, .ref b22, .ref b23, .ref b24, .int (nI an), .int f2, .int f3, .int f4, .int f5])), (b1, .inl (kI, 24, .inl bal)), (b5, .inl (kI, 500, .inl ka)), (b6, .inl (kI, 500, .inl kN)), (b7, .inl (kI, 500, .inl kv)), (b9, .inl (kI, 192, .inl oB)), (b10, .inl (kI, 4000, .inl oA)), (b11, .inl (kI, 4000, .inl oN)), (b12, .inl (kI, 4000, .inl oV)), (b13, .inl (kI, 8, .inl (fun j => nI (oK j)))), (b14, .inl (kI, 8, .inl (fun j => nI (oL j)))), (b22, .inl (kI, 8, .inl (fun j => nI (gg j))))] [.ref m0, .int 1, .int v] 0 0 x_eV (fun (r : Unit) (u : (Nat → Int32) × (Nat → Int32) × (Nat → Int32) × (Nat → Int32)) => (mSeg u.1 bal 0 24 (fun i => oB (24 * 0 + i))) ∧ (mSeg u.2.1 ka 0 (oK 0) (fun i => oA (500 * 0 + i))) ∧ (mSeg u.2.2.1 kN 0 (oK 0) (fun i => oN (500 * 0 + i))) ∧ (mSeg u.2.2.2 kv 0 (oK 0) (fun i => oV (500 * 0 + i)))) (fun (u : (Nat → Int32) × (Nat → Int32) × (Nat → Int32) × (Nat → Int32)) => [(m0, .inr (6, [.int f0, .int (nI nA), .ref b1, .ref b2, .ref b3, .ref b4, .ref b5, .ref b6, .ref b7, .int (nI (oK 0)), .ref b8, .int (nI (oL 0)), .ref b9, .ref b10, .ref b11, .ref b12, .ref b13, .ref b14, .int (-1), .ref b15, .ref b16, .ref b17, .ref b18, .ref b19, .ref b20, .ref b21, .ref b22, .ref b23, .ref b24, .int (nI an), .int 1, .int v, .int (nI (gg 0)), .int f5])), (b1, .inl (kI, 24, .inl u.1)), (b5, .inl (kI, 500, .inl u.2.1)), (b6, .inl (kI, 500, .inl u.2.2.1)), (b7, .inl (kI, 500, .inl u.2.2.2)), (b9, .inl (kI, 192, .inl oB)), (b10, .inl (kI, 4000, .inl oA)), (b11, .inl (kI, 4000, .inl oN)), (b12, .inl (kI, 4000, .inl oV)), (b13, .inl (kI, 8, .inl (fun j => nI (oK j)))), (b14, .inl (kI, 8, .inl (fun j => nI (oL j)))), (b22, .inl (kI, 8, .inl (fun j => nI (gg j))))]) := by
  refine XM.ofV (cc := cMod_end) (maxL := 5) (by decide) rfl (Nat.le_of_ble_eq_true rfl) ?_
  intro p e s m below meth c A Q hx hb hr hml hown hts hlocks hin hA hK hP hD hX hS ls hl hret
  have hl : lv_has ls 5 [(0, .ref m0), (1, .int 1), (2, .int v)] := hl
  refine lv_iload_n hx hb dMod_end_0 rfl (lv_at hl 1 rfl) ?_
  refine lv_if_le (tgt := 8) hx hb dMod_end_1 (by decide) (fun c1 => ?_) (fun c1 => ?_)
  · exact absurd c1 (by decide)
  · refine lv_aload_n hx hb dMod_end_4 rfl (lv_at hl 0 rfl) ?_
    refine XM.callVv (As := []) (rest := []) (wr := [(b22, .inl (kI, 8, .inl (fun j => nI (gg j))))]) stX_ok ⟨hx, hb, hml, hown, hts⟩ (kM_undo l dC dI kI kJ kZ m0 b1 b2 b3 b4 b5 b6 b7 b8 b9 b10 b11 b12 b13 b14 b15 b16 b17 b18 b19 b20 b21 b22 b23 b24 nA kn ln an f0 f2 f3 f4 f5 0 bal ka kN kv oB oA oN oV oK oL (by first | assumption | omega) (by first | assumption | omega)) (cwV 0 hts (x_gV gw832 gw834 gw25 gw43 gw835) rfl rfl rfl (by decide +kernel) ⟨Nat.le_of_ble_eq_true rfl, Nat.le_of_ble_eq_true rfl⟩) hK hP hD hS hA hX [0, 1, 2, 3, 4, 5, 6, 7, 8, 9, 10] [11] rfl rfl (by decide) (by decide) (by decide) rfl rfl rfl rfl hl.1 (Nat.le_of_ble_eq_true rfl) dMod_end_5 ⟨Nat.le_of_ble_eq_true rfl, Nat.le_of_ble_eq_true rfl⟩ (fun u_1 H locs hw hP hD hS => ?_)
    obtain ⟨bal2_3, ka2_4, kN2_5, kv2_6⟩ := u_1
    try dsimp only at hw
    obtain ⟨hwmSeg_bal2, hwmSeg_ka2, hwmSeg_kN2, hwmSeg_kv2⟩ := hw
    have hP : va_P (dC, dI) xCl [(b22, .inl (kI, 8, .inl (fun j => nI (gg j)))), (m0, .inr (6, [.int f0, .int (nI nA), .ref b1, .ref b2, .ref b3, .ref b4, .ref b5, .ref b6, .ref b7, .int (nI (oK 0)), .ref b8, .int (nI (oL 0)), .ref b9, .ref b10, .ref b11, .ref b12, .ref b13, .ref b14, .int (nI 0), .ref b15, .ref b16, .ref b17, .ref b18, .ref b19, .ref b20, .ref b21, .ref b22, .ref b23, .ref b24, .int (nI an), .int f2, .int f3, .int f4, .int f5])), (b1, .inl (kI, 24, .inl bal2_3)), (b5, .inl (kI, 500, .inl ka2_4)), (b6, .inl (kI, 500, .inl kN2_5)), (b7, .inl (kI, 500, .inl kv2_6)), (b9, .inl (kI, 192, .inl oB)), (b10, .inl (kI, 4000, .inl oA)), (b11, .inl (kI, 4000, .inl oN)), (b12, .inl (kI, 4000, .inl oV)), (b13, .inl (kI, 8, .inl (fun j => nI (oK j)))), (b14, .inl (kI, 8, .inl (fun j => nI (oL j))))] H := hP
    have hD : va_D A [(b22, .inl (kI, 8, .inl (fun j => nI (gg j)))), (m0, .inr (6, [.int f0, .int (nI nA), .ref b1, .ref b2, .ref b3, .ref b4, .ref b5, .ref b6, .ref b7, .int (nI (oK 0)), .ref b8, .int (nI (oL 0)), .ref b9, .ref b10, .ref b11, .ref b12, .ref b13, .ref b14, .int (nI 0), .ref b15, .ref b16, .ref b17, .ref b18, .ref b19, .ref b20, .ref b21, .ref b22, .ref b23, .ref b24, .int (nI an), .int f2, .int f3, .int f4, .int f5])), (b1, .inl (kI, 24, .inl bal2_3)), (b5, .inl (kI, 500, .inl ka2_4)), (b6, .inl (kI, 500, .inl kN2_5)), (b7, .inl (kI, 500, .inl kv2_6)), (b9, .inl (kI, 192, .inl oB)), (b10, .inl (kI, 4000, .inl oA)), (b11, .inl (kI, 4000, .inl oN)), (b12, .inl (kI, 4000, .inl oV)), (b13, .inl (kI, 8, .inl (fun j => nI (oK j)))), (b14, .inl (kI, 8, .inl (fun j => nI (oL j))))] := hD
    refine lv_iload_n hx hb dMod_end_8 rfl (lv_at hl 1 rfl) ?_
    refine lv_iconst (v := 1) hx hb dMod_end_9 (by decide) ?_
    refine lv_icmp_le (tgt := 17) hx hb dMod_end_10 (by decide) (fun c10 => ?_) (fun c10 => ?_)
    · refine lv_aload_n hx hb dMod_end_17 rfl (lv_at hl 0 rfl) ?_
      refine va_get (D := (dC, dI)) (ci := 6) (v := .ref b22) (C := RMod) (T := TMod) (N := 34) hx hb hts (fun w h => List.mem_cons_of_mem _ (layMod w h)) hown hK hP 1 rfl rfl 26 (by decide) (hts (.fieldLink RMod 74 "CallLedgerModel" "gases" "[I") (List.mem_cons_of_mem _ gw670)) (fun _ h9 => h9) rfl dMod_end_18 ?_
      refine lv_aload_n hx hb dMod_end_21 rfl (lv_at hl 0 rfl) ?_
      refine va_get (D := (dC, dI)) (ci := 6) (v := .int (nI 0)) (C := RMod) (T := TMod) (N := 34) hx hb hts (fun w h => List.mem_cons_of_mem _ (layMod w h)) hown hK hP 1 rfl rfl 18 (by decide) (hts (.fieldLink RMod 126 "CallLedgerModel" "depth" "I") (List.mem_cons_of_mem _ gw662)) (fun _ h9 => h9) rfl dMod_end_22 ?_
      refine x_iald (j := 0) hx hb hK hP 0 0 rfl rfl rfl (by omega) (by omega) dMod_end_25 ?_
      refine lv_istore_n (lv' := [(3, .int (nI (gg 0))), (0, .ref m0), (1, .int 1), (2, .int v)]) hx hb dMod_end_26 rfl hl (by decide) rfl (fun ls hl => ?_)
      refine lv_iload_n hx hb dMod_end_27 rfl (lv_at hl 2 rfl) ?_
      refine lv_iconst (v := 1) hx hb dMod_end_28 (by decide) ?_
      refine lv_icmp_le (tgt := 36) hx hb dMod_end_29 (by decide) (fun c29 => ?_) (fun c29 => ?_)
      · refine lv_iload_n hx hb dMod_end_36 rfl (lv_at hl 3 rfl) ?_
        refine lv_istore (lv' := [(4, .int v), (3, .int (nI (gg 0))), (0, .ref m0), (1, .int 1), (2, .int v)]) hx hb dMod_end_37 hl (by decide) rfl (fun ls hl => ?_)
        refine lv_aload_n hx hb dMod_end_39 rfl (lv_at hl 2 rfl) ?_
        refine va_get (D := (dC, dI)) (ci := 6) (v := .int (nI 0)) (C := RMod) (T := TMod) (N := 34) hx hb hts (fun w h => List.mem_cons_of_mem _ (layMod w h)) hown hK hP 1 rfl rfl 18 (by decide) (hts (.fieldLink RMod 126 "CallLedgerModel" "depth" "I") (List.mem_cons_of_mem _ gw662)) (fun _ h9 => h9) rfl dMod_end_40 ?_
        refine lv_if_ne (tgt := 68) hx hb dMod_end_43 (by decide) (fun c43 => ?_) (fun c43 => ?_)
        · have c43 : ¬ (0 = 0) := fun z9 => c43 ((nI_eq (a := 0) (b := 0) (by omega) (by omega)).mpr z9)
          exfalso; omega
        · have c43 : 0 = 0 := (nI_eq (a := 0) (b := 0) (by omega) (by omega)).mp c43
          refine lv_aload_n hx hb dMod_end_46 rfl (lv_at hl 2 rfl) ?_
          refine lv_iload_n hx hb dMod_end_47 rfl (lv_at hl 3 rfl) ?_
          refine va_put (D := (dC, dI)) (ci := 6) (v := .int 1) (ty := .int) (C := RMod) (T := TMod) (N := 34) hx hb hts (fun w h => List.mem_cons_of_mem _ (layMod w h)) tyMod tykMod nmMod hown hK hP hD hS 1 rfl rfl 30 (by decide) (hts (.fieldLink RMod 132 "CallLedgerModel" "ended" "I") (List.mem_cons_of_mem _ gw674)) (fun _ h9 => h9) rfl (by decide +kernel) rfl rfl (Nat.le_of_ble_eq_true rfl) dMod_end_48 (fun H locs hP hD hS => ?_)
          have hP : va_P (dC, dI) xCl [(b22, .inl (kI, 8, .inl (fun j => nI (gg j)))), (m0, .inr (6, [.int f0, .int (nI nA), .ref b1, .ref b2, .ref b3, .ref b4, .ref b5, .ref b6, .ref b7, .int (nI (oK 0)), .ref b8, .int (nI (oL 0)), .ref b9, .ref b10, .ref b11, .ref b12, .ref b13, .ref b14, .int (nI 0), .ref b15, .ref b16, .ref b17, .ref b18, .ref b19, .ref b20, .ref b21, .ref b22, .ref b23, .ref b24, .int (nI an), .int 1, .int f3, .int f4, .int f5])), (b1, .inl (kI, 24, .inl bal2_3)), (b5, .inl (kI, 500, .inl ka2_4)), (b6, .inl (kI, 500, .inl kN2_5)), (b7, .inl (kI, 500, .inl kv2_6)), (b9, .inl (kI, 192, .inl oB)), (b10, .inl (kI, 4000, .inl oA)), (b11, .inl (kI, 4000, .inl oN)), (b12, .inl (kI, 4000, .inl oV)), (b13, .inl (kI, 8, .inl (fun j => nI (oK j)))), (b14, .inl (kI, 8, .inl (fun j => nI (oL j))))] H := hP
          have hD : va_D A [(b22, .inl (kI, 8, .inl (fun j => nI (gg j)))), (m0, .inr (6, [.int f0, .int (nI nA), .ref b1, .ref b2, .ref b3, .ref b4, .ref b5, .ref b6, .ref b7, .int (nI (oK 0)), .ref b8, .int (nI (oL 0)), .ref b9, .ref b10, .ref b11, .ref b12, .ref b13, .ref b14, .int (nI 0), .ref b15, .ref b16, .ref b17, .ref b18, .ref b19, .ref b20, .ref b21, .ref b22, .ref b23, .ref b24, .int (nI an), .int 1, .int f3, .int f4, .int f5])), (b1, .inl (kI, 24, .inl bal2_3)), (b5, .inl (kI, 500, .inl ka2_4)), (b6, .inl (kI, 500, .inl kN2_5)), (b7, .inl (kI, 500, .inl kv2_6)), (b9, .inl (kI, 192, .inl oB)), (b10, .inl (kI, 4000, .inl oA)), (b11, .inl (kI, 4000, .inl oN)), (b12, .inl (kI, 4000, .inl oV)), (b13, .inl (kI, 8, .inl (fun j => nI (oK j)))), (b14, .inl (kI, 8, .inl (fun j => nI (oL j))))] := hD
          refine lv_aload_n hx hb dMod_end_51 rfl (lv_at hl 2 rfl) ?_
          refine lv_iload hx hb dMod_end_52 (lv_at hl 0 rfl) ?_
          refine va_put (D := (dC, dI)) (ci := 6) (v := .int v) (ty := .int) (C := RMod) (T := TMod) (N := 34) hx hb hts (fun w h => List.mem_cons_of_mem _ (layMod w h)) tyMod tykMod nmMod hown hK hP hD hS 1 rfl rfl 31 (by decide) (hts (.fieldLink RMod 123 "CallLedgerModel" "result" "I") (List.mem_cons_of_mem _ gw675)) (fun _ h9 => h9) rfl (by decide +kernel) rfl rfl (Nat.le_of_ble_eq_true rfl) dMod_end_54 (fun H locs hP hD hS => ?_)
          have hP : va_P (dC, dI) xCl [(b22, .inl (kI, 8, .inl (fun j => nI (gg j)))), (m0, .inr (6, [.int f0, .int (nI nA), .ref b1, .ref b2, .ref b3, .ref b4, .ref b5, .ref b6, .ref b7, .int (nI (oK 0)), .ref b8, .int (nI (oL 0)), .ref b9, .ref b10, .ref b11, .ref b12, .ref b13, .ref b14, .int (nI 0), .ref b15, .ref b16, .ref b17, .ref b18, .ref b19, .ref b20, .ref b21, .ref b22, .ref b23, .ref b24, .int (nI an), .int 1, .int v, .int f4, .int f5])), (b1, .inl (kI, 24, .inl bal2_3)), (b5, .inl (kI, 500, .inl ka2_4)), (b6, .inl (kI, 500, .inl kN2_5)), (b7, .inl (kI, 500, .inl kv2_6)), (b9, .inl (kI, 192, .inl oB)), (b10, .inl (kI, 4000, .inl oA)), (b11, .inl (kI, 4000, .inl oN)), (b12, .inl (kI, 4000, .inl oV)), (b13, .inl (kI, 8, .inl (fun j => nI (oK j)))), (b14, .inl (kI, 8, .inl (fun j => nI (oL j))))] H := hP
          have hD : va_D A [(b22, .inl (kI, 8, .inl (fun j => nI (gg j)))), (m0, .inr (6, [.int f0, .int (nI nA), .ref b1, .ref b2, .ref b3, .ref b4, .ref b5, .ref b6, .ref b7, .int (nI (oK 0)), .ref b8, .int (nI (oL 0)), .ref b9, .ref b10, .ref b11, .ref b12, .ref b13, .ref b14, .int (nI 0), .ref b15, .ref b16, .ref b17, .ref b18, .ref b19, .ref b20, .ref b21, .ref b22, .ref b23, .ref b24, .int (nI an), .int 1, .int v, .int f4, .int f5])), (b1, .inl (kI, 24, .inl bal2_3)), (b5, .inl (kI, 500, .inl ka2_4)), (b6, .inl (kI, 500, .inl kN2_5)), (b7, .inl (kI, 500, .inl kv2_6)), (b9, .inl (kI, 192, .inl oB)), (b10, .inl (kI, 4000, .inl oA)), (b11, .inl (kI, 4000, .inl oN)), (b12, .inl (kI, 4000, .inl oV)), (b13, .inl (kI, 8, .inl (fun j => nI (oK j)))), (b14, .inl (kI, 8, .inl (fun j => nI (oL j))))] := hD
          refine lv_aload_n hx hb dMod_end_57 rfl (lv_at hl 2 rfl) ?_
          refine lv_iload_n hx hb dMod_end_58 rfl (lv_at hl 1 rfl) ?_
          refine va_put (D := (dC, dI)) (ci := 6) (v := .int (nI (gg 0))) (ty := .int) (C := RMod) (T := TMod) (N := 34) hx hb hts (fun w h => List.mem_cons_of_mem _ (layMod w h)) tyMod tykMod nmMod hown hK hP hD hS 1 rfl rfl 32 (by decide) (hts (.fieldLink RMod 135 "CallLedgerModel" "left" "I") (List.mem_cons_of_mem _ gw676)) (fun _ h9 => h9) rfl (by decide +kernel) rfl rfl (Nat.le_of_ble_eq_true rfl) dMod_end_59 (fun H locs hP hD hS => ?_)
          have hP : va_P (dC, dI) xCl [(b22, .inl (kI, 8, .inl (fun j => nI (gg j)))), (m0, .inr (6, [.int f0, .int (nI nA), .ref b1, .ref b2, .ref b3, .ref b4, .ref b5, .ref b6, .ref b7, .int (nI (oK 0)), .ref b8, .int (nI (oL 0)), .ref b9, .ref b10, .ref b11, .ref b12, .ref b13, .ref b14, .int (nI 0), .ref b15, .ref b16, .ref b17, .ref b18, .ref b19, .ref b20, .ref b21, .ref b22, .ref b23, .ref b24, .int (nI an), .int 1, .int v, .int (nI (gg 0)), .int f5])), (b1, .inl (kI, 24, .inl bal2_3)), (b5, .inl (kI, 500, .inl ka2_4)), (b6, .inl (kI, 500, .inl kN2_5)), (b7, .inl (kI, 500, .inl kv2_6)), (b9, .inl (kI, 192, .inl oB)), (b10, .inl (kI, 4000, .inl oA)), (b11, .inl (kI, 4000, .inl oN)), (b12, .inl (kI, 4000, .inl oV)), (b13, .inl (kI, 8, .inl (fun j => nI (oK j)))), (b14, .inl (kI, 8, .inl (fun j => nI (oL j))))] H := hP
          have hD : va_D A [(b22, .inl (kI, 8, .inl (fun j => nI (gg j)))), (m0, .inr (6, [.int f0, .int (nI nA), .ref b1, .ref b2, .ref b3, .ref b4, .ref b5, .ref b6, .ref b7, .int (nI (oK 0)), .ref b8, .int (nI (oL 0)), .ref b9, .ref b10, .ref b11, .ref b12, .ref b13, .ref b14, .int (nI 0), .ref b15, .ref b16, .ref b17, .ref b18, .ref b19, .ref b20, .ref b21, .ref b22, .ref b23, .ref b24, .int (nI an), .int 1, .int v, .int (nI (gg 0)), .int f5])), (b1, .inl (kI, 24, .inl bal2_3)), (b5, .inl (kI, 500, .inl ka2_4)), (b6, .inl (kI, 500, .inl kN2_5)), (b7, .inl (kI, 500, .inl kv2_6)), (b9, .inl (kI, 192, .inl oB)), (b10, .inl (kI, 4000, .inl oA)), (b11, .inl (kI, 4000, .inl oN)), (b12, .inl (kI, 4000, .inl oV)), (b13, .inl (kI, 8, .inl (fun j => nI (oK j)))), (b14, .inl (kI, 8, .inl (fun j => nI (oL j))))] := hD
          refine lv_aload_n hx hb dMod_end_62 rfl (lv_at hl 2 rfl) ?_
          refine lv_iconst (v := (-1)) hx hb dMod_end_63 (by decide) ?_
          refine va_put (D := (dC, dI)) (ci := 6) (v := .int (-1)) (ty := .int) (C := RMod) (T := TMod) (N := 34) hx hb hts (fun w h => List.mem_cons_of_mem _ (layMod w h)) tyMod tykMod nmMod hown hK hP hD hS 1 rfl rfl 18 (by decide) (hts (.fieldLink RMod 126 "CallLedgerModel" "depth" "I") (List.mem_cons_of_mem _ gw662)) (fun _ h9 => h9) rfl (by decide +kernel) rfl rfl (Nat.le_of_ble_eq_true rfl) dMod_end_64 (fun H locs hP hD hS => ?_)
          have hP : va_P (dC, dI) xCl [(b22, .inl (kI, 8, .inl (fun j => nI (gg j)))), (m0, .inr (6, [.int f0, .int (nI nA), .ref b1, .ref b2, .ref b3, .ref b4, .ref b5, .ref b6, .ref b7, .int (nI (oK 0)), .ref b8, .int (nI (oL 0)), .ref b9, .ref b10, .ref b11, .ref b12, .ref b13, .ref b14, .int (-1), .ref b15, .ref b16, .ref b17, .ref b18, .ref b19, .ref b20, .ref b21, .ref b22, .ref b23, .ref b24, .int (nI an), .int 1, .int v, .int (nI (gg 0)), .int f5])), (b1, .inl (kI, 24, .inl bal2_3)), (b5, .inl (kI, 500, .inl ka2_4)), (b6, .inl (kI, 500, .inl kN2_5)), (b7, .inl (kI, 500, .inl kv2_6)), (b9, .inl (kI, 192, .inl oB)), (b10, .inl (kI, 4000, .inl oA)), (b11, .inl (kI, 4000, .inl oN)), (b12, .inl (kI, 4000, .inl oV)), (b13, .inl (kI, 8, .inl (fun j => nI (oK j)))), (b14, .inl (kI, 8, .inl (fun j => nI (oL j))))] H := hP
          have hD : va_D A [(b22, .inl (kI, 8, .inl (fun j => nI (gg j)))), (m0, .inr (6, [.int f0, .int (nI nA), .ref b1, .ref b2, .ref b3, .ref b4, .ref b5, .ref b6, .ref b7, .int (nI (oK 0)), .ref b8, .int (nI (oL 0)), .ref b9, .ref b10, .ref b11, .ref b12, .ref b13, .ref b14, .int (-1), .ref b15, .ref b16, .ref b17, .ref b18, .ref b19, .ref b20, .ref b21, .ref b22, .ref b23, .ref b24, .int (nI an), .int 1, .int v, .int (nI (gg 0)), .int f5])), (b1, .inl (kI, 24, .inl bal2_3)), (b5, .inl (kI, 500, .inl ka2_4)), (b6, .inl (kI, 500, .inl kN2_5)), (b7, .inl (kI, 500, .inl kv2_6)), (b9, .inl (kI, 192, .inl oB)), (b10, .inl (kI, 4000, .inl oA)), (b11, .inl (kI, 4000, .inl oN)), (b12, .inl (kI, 4000, .inl oV)), (b13, .inl (kI, 8, .inl (fun j => nI (oK j)))), (b14, .inl (kI, 8, .inl (fun j => nI (oL j))))] := hD
          exact hret  ((bal2_3, ka2_4, kN2_5, kv2_6)) _ _ _ (⟨hwmSeg_bal2, hwmSeg_ka2, hwmSeg_kN2, hwmSeg_kv2⟩) (hP.sub [1, 2, 3, 4, 5, 6, 7, 8, 9, 10, 11, 0] rfl) (hD.sub [1, 2, 3, 4, 5, 6, 7, 8, 9, 10, 11, 0] (by decide) rfl) hS dMod_end_67
      · exact absurd c29 (by decide)
    · exact absurd c10 (by decide)

set_option maxHeartbeats 4000000 in
set_option maxRecDepth 100000 in
theorem kM_endCT (l : Launch) (dC : Nat → ClassId) (dI : Nat → Nat → Nat) (kI kJ kZ : ClassId) (m0 : Nat) (b1 : Nat) (b2 : Nat) (b3 : Nat) (b4 : Nat) (b5 : Nat) (b6 : Nat) (b7 : Nat) (b8 : Nat) (b9 : Nat) (b10 : Nat) (b11 : Nat) (b12 : Nat) (b13 : Nat) (b14 : Nat) (b15 : Nat) (b16 : Nat) (b17 : Nat) (b18 : Nat) (b19 : Nat) (b20 : Nat) (b21 : Nat) (b22 : Nat) (b23 : Nat) (b24 : Nat) (nA : Nat) (kn : Nat) (ln : Nat) (an : Nat) (f0 : Int32) (f2 : Int32) (f3 : Int32) (f4 : Int32) (f5 : Int32) (ho : Nat) (bal : Nat → Int32) (ka : Nat → Int32) (kN : Nat → Int32) (kv : Nat → Int32) (oB : Nat → Int32) (oA : Nat → Int32) (oN : Nat → Int32) (oV : Nat → Int32) (oK : Nat → Nat) (oL : Nat → Nat) (gg : Nat → Nat) (hoK : oK 0 ≤ 500) (ho2 : 2 ≤ ho) (ho6 : ho ≤ 6) :
    XM stX l yMod_end wMod_end { frames := 1, cells := 0, slots := 0, locals := 21 } (dC, dI) xCl (x_T kI kJ kZ) [(m0, .inr (6, [.int f0, .int (nI nA), .ref b1, .ref b2, .ref b3, .ref b4, .ref b5, .ref b6, .ref b7, .int (nI kn), .ref b8, .int (nI ln), .ref b9, .ref b10, .ref b11, .ref b12, .ref b13, .ref b14, .int (nI 0), .ref b15, .ref b16, .ref b17, .ref b18, .ref b19, .ref b20, .ref b21, .ref b22, .ref b23, .ref b24, .int (nI an), .int f2, .int f3, .int f4, .int f5])), (b1, .inl (kI, 24, .inl bal)), (b5, .inl (kI, 500, .inl ka)), (b6, .inl (kI, 500, .inl kN)), (b7, .inl (kI, 500, .inl kv)), (b9, .inl (kI, 192, .inl oB)), (b10, .inl (kI, 4000, .inl oA)), (b11, .inl (kI, 4000, .inl oN)), (b12, .inl (kI, 4000, .inl oV)), (b13, .inl (kI, 8, .inl (fun j => nI (oK j)))), (b14, .inl (kI, 8, .inl (fun j => nI (oL j)))), (b22, .inl (kI, 8, .inl (fun j => nI (gg j))))] [.ref m0, .int (nI ho), .int 0] 0 0 x_eV (fun (r : Unit) (u : (Nat → Int32) × (Nat → Int32) × (Nat → Int32) × (Nat → Int32)) => (mSeg u.1 bal 0 24 (fun i => oB (24 * 0 + i))) ∧ (mSeg u.2.1 ka 0 (oK 0) (fun i => oA (500 * 0 + i))) ∧ (mSeg u.2.2.1 kN 0 (oK 0) (fun i => oN (500 * 0 + i))) ∧ (mSeg u.2.2.2 kv 0 (oK 0) (fun i => oV (500 * 0 + i)))) (fun (u : (Nat → Int32) × (Nat → Int32) × (Nat → Int32) × (Nat → Int32)) => [(m0, .inr (6, [.int f0, .int (nI nA), .ref b1, .ref b2, .ref b3, .ref b4, .ref b5, .ref b6, .ref b7, .int (nI (oK 0)), .ref b8, .int (nI (oL 0)), .ref b9, .ref b10, .ref b11, .ref b12, .ref b13, .ref b14, .int (-1), .ref b15, .ref b16, .ref b17, .ref b18, .ref b19, .ref b20, .ref b21, .ref b22, .ref b23, .ref b24, .int (nI an), .int (nI ho), .int 0, .int (nI (0)), .int f5])), (b1, .inl (kI, 24, .inl u.1)), (b5, .inl (kI, 500, .inl u.2.1)), (b6, .inl (kI, 500, .inl u.2.2.1)), (b7, .inl (kI, 500, .inl u.2.2.2)), (b9, .inl (kI, 192, .inl oB)), (b10, .inl (kI, 4000, .inl oA)), (b11, .inl (kI, 4000, .inl oN)), (b12, .inl (kI, 4000, .inl oV)), (b13, .inl (kI, 8, .inl (fun j => nI (oK j)))), (b14, .inl (kI, 8, .inl (fun j => nI (oL j)))), (b22, .inl (kI, 8, .inl (fun j => nI (gg j))))]) := by
  refine XM.ofV (cc := cMod_end) (maxL := 5) (by decide) rfl (Nat.le_of_ble_eq_true rfl) ?_
  intro p e s m below meth c A Q hx hb hr hml hown hts hlocks hin hA hK hP hD hX hS ls hl hret
  have hl : lv_has ls 5 [(0, .ref m0), (1, .int (nI ho)), (2, .int 0)] := hl
  refine lv_iload_n hx hb dMod_end_0 rfl (lv_at hl 1 rfl) ?_
  refine lv_if_le (tgt := 8) hx hb dMod_end_1 (by decide) (fun c1 => ?_) (fun c1 => ?_)
  · have c1 : ho ≤ 0 := (nI_leI (a := ho) (b := 0) (by omega) (by omega)).mp c1
    exfalso; omega
  · have c1 : ¬ (ho ≤ 0) := fun z9 => c1 ((nI_leI (a := ho) (b := 0) (by omega) (by omega)).mpr z9)
    refine lv_aload_n hx hb dMod_end_4 rfl (lv_at hl 0 rfl) ?_
    refine XM.callVv (As := []) (rest := []) (wr := [(b22, .inl (kI, 8, .inl (fun j => nI (gg j))))]) stX_ok ⟨hx, hb, hml, hown, hts⟩ (kM_undo l dC dI kI kJ kZ m0 b1 b2 b3 b4 b5 b6 b7 b8 b9 b10 b11 b12 b13 b14 b15 b16 b17 b18 b19 b20 b21 b22 b23 b24 nA kn ln an f0 f2 f3 f4 f5 0 bal ka kN kv oB oA oN oV oK oL (by first | assumption | omega) (by first | assumption | omega)) (cwV 0 hts (x_gV gw832 gw834 gw25 gw43 gw835) rfl rfl rfl (by decide +kernel) ⟨Nat.le_of_ble_eq_true rfl, Nat.le_of_ble_eq_true rfl⟩) hK hP hD hS hA hX [0, 1, 2, 3, 4, 5, 6, 7, 8, 9, 10] [11] rfl rfl (by decide) (by decide) (by decide) rfl rfl rfl rfl hl.1 (Nat.le_of_ble_eq_true rfl) dMod_end_5 ⟨Nat.le_of_ble_eq_true rfl, Nat.le_of_ble_eq_true rfl⟩ (fun u_1 H locs hw hP hD hS => ?_)
    obtain ⟨bal2_3, ka2_4, kN2_5, kv2_6⟩ := u_1
    try dsimp only at hw
    obtain ⟨hwmSeg_bal2, hwmSeg_ka2, hwmSeg_kN2, hwmSeg_kv2⟩ := hw
    have hP : va_P (dC, dI) xCl [(b22, .inl (kI, 8, .inl (fun j => nI (gg j)))), (m0, .inr (6, [.int f0, .int (nI nA), .ref b1, .ref b2, .ref b3, .ref b4, .ref b5, .ref b6, .ref b7, .int (nI (oK 0)), .ref b8, .int (nI (oL 0)), .ref b9, .ref b10, .ref b11, .ref b12, .ref b13, .ref b14, .int (nI 0), .ref b15, .ref b16, .ref b17, .ref b18, .ref b19, .ref b20, .ref b21, .ref b22, .ref b23, .ref b24, .int (nI an), .int f2, .int f3, .int f4, .int f5])), (b1, .inl (kI, 24, .inl bal2_3)), (b5, .inl (kI, 500, .inl ka2_4)), (b6, .inl (kI, 500, .inl kN2_5)), (b7, .inl (kI, 500, .inl kv2_6)), (b9, .inl (kI, 192, .inl oB)), (b10, .inl (kI, 4000, .inl oA)), (b11, .inl (kI, 4000, .inl oN)), (b12, .inl (kI, 4000, .inl oV)), (b13, .inl (kI, 8, .inl (fun j => nI (oK j)))), (b14, .inl (kI, 8, .inl (fun j => nI (oL j))))] H := hP
    have hD : va_D A [(b22, .inl (kI, 8, .inl (fun j => nI (gg j)))), (m0, .inr (6, [.int f0, .int (nI nA), .ref b1, .ref b2, .ref b3, .ref b4, .ref b5, .ref b6, .ref b7, .int (nI (oK 0)), .ref b8, .int (nI (oL 0)), .ref b9, .ref b10, .ref b11, .ref b12, .ref b13, .ref b14, .int (nI 0), .ref b15, .ref b16, .ref b17, .ref b18, .ref b19, .ref b20, .ref b21, .ref b22, .ref b23, .ref b24, .int (nI an), .int f2, .int f3, .int f4, .int f5])), (b1, .inl (kI, 24, .inl bal2_3)), (b5, .inl (kI, 500, .inl ka2_4)), (b6, .inl (kI, 500, .inl kN2_5)), (b7, .inl (kI, 500, .inl kv2_6)), (b9, .inl (kI, 192, .inl oB)), (b10, .inl (kI, 4000, .inl oA)), (b11, .inl (kI, 4000, .inl oN)), (b12, .inl (kI, 4000, .inl oV)), (b13, .inl (kI, 8, .inl (fun j => nI (oK j)))), (b14, .inl (kI, 8, .inl (fun j => nI (oL j))))] := hD
    refine lv_iload_n hx hb dMod_end_8 rfl (lv_at hl 1 rfl) ?_
    refine lv_iconst (v := 1) hx hb dMod_end_9 (by decide) ?_
    refine lv_icmp_le (tgt := 17) hx hb dMod_end_10 (by decide) (fun c10 => ?_) (fun c10 => ?_)
    · have c10 : ho ≤ 1 := (nI_leI (a := ho) (b := 1) (by omega) (by omega)).mp c10
      exfalso; omega
    · have c10 : ¬ (ho ≤ 1) := fun z9 => c10 ((nI_leI (a := ho) (b := 1) (by omega) (by omega)).mpr z9)
      refine lv_iconst (v := 0) hx hb dMod_end_13 (by decide) ?_
      refine lv_goto (tgt := 26) hx hb dMod_end_14 (by decide) ?_
      refine lv_istore_n (lv' := [(3, .int 0), (0, .ref m0), (1, .int (nI ho)), (2, .int 0)]) hx hb dMod_end_26 rfl hl (by decide) rfl (fun ls hl => ?_)
      refine lv_iload_n hx hb dMod_end_27 rfl (lv_at hl 2 rfl) ?_
      refine lv_iconst (v := 1) hx hb dMod_end_28 (by decide) ?_
      refine lv_icmp_le (tgt := 36) hx hb dMod_end_29 (by decide) (fun c29 => ?_) (fun c29 => ?_)
      · have c29 : ho ≤ 1 := (nI_leI (a := ho) (b := 1) (by omega) (by omega)).mp c29
        refine lv_iload_n hx hb dMod_end_36 rfl (lv_at hl 3 rfl) ?_
        refine lv_istore (lv' := [(4, .int 0), (3, .int 0), (0, .ref m0), (1, .int (nI ho)), (2, .int 0)]) hx hb dMod_end_37 hl (by decide) rfl (fun ls hl => ?_)
        refine lv_aload_n hx hb dMod_end_39 rfl (lv_at hl 2 rfl) ?_
        refine va_get (D := (dC, dI)) (ci := 6) (v := .int (nI 0)) (C := RMod) (T := TMod) (N := 34) hx hb hts (fun w h => List.mem_cons_of_mem _ (layMod w h)) hown hK hP 1 rfl rfl 18 (by decide) (hts (.fieldLink RMod 126 "CallLedgerModel" "depth" "I") (List.mem_cons_of_mem _ gw662)) (fun _ h9 => h9) rfl dMod_end_40 ?_
        refine lv_if_ne (tgt := 68) hx hb dMod_end_43 (by decide) (fun c43 => ?_) (fun c43 => ?_)
        · have c43 : ¬ (0 = 0) := fun z9 => c43 ((nI_eq (a := 0) (b := 0) (by omega) (by omega)).mpr z9)
          exfalso; omega
        · have c43 : 0 = 0 := (nI_eq (a := 0) (b := 0) (by omega) (by omega)).mp c43
          refine lv_aload_n hx hb dMod_end_46 rfl (lv_at hl 2 rfl) ?_
          refine lv_iload_n hx hb dMod_end_47 rfl (lv_at hl 3 rfl) ?_
          refine va_put (D := (dC, dI)) (ci := 6) (v := .int (nI ho)) (ty := .int) (C := RMod) (T := TMod) (N := 34) hx hb hts (fun w h => List.mem_cons_of_mem _ (layMod w h)) tyMod tykMod nmMod hown hK hP hD hS 1 rfl rfl 30 (by decide) (hts (.fieldLink RMod 132 "CallLedgerModel" "ended" "I") (List.mem_cons_of_mem _ gw674)) (fun _ h9 => h9) rfl (by decide +kernel) rfl rfl (Nat.le_of_ble_eq_true rfl) dMod_end_48 (fun H locs hP hD hS => ?_)
          have hP : va_P (dC, dI) xCl [(b22, .inl (kI, 8, .inl (fun j => nI (gg j)))), (m0, .inr (6, [.int f0, .int (nI nA), .ref b1, .ref b2, .ref b3, .ref b4, .ref b5, .ref b6, .ref b7, .int (nI (oK 0)), .ref b8, .int (nI (oL 0)), .ref b9, .ref b10, .ref b11, .ref b12, .ref b13, .ref b14, .int (nI 0), .ref b15, .ref b16, .ref b17, .ref b18, .ref b19, .ref b20, .ref b21, .ref b22, .ref b23, .ref b24, .int (nI an), .int (nI ho), .int f3, .int f4, .int f5])), (b1, .inl (kI, 24, .inl bal2_3)), (b5, .inl (kI, 500, .inl ka2_4)), (b6, .inl (kI, 500, .inl kN2_5)), (b7, .inl (kI, 500, .inl kv2_6)), (b9, .inl (kI, 192, .inl oB)), (b10, .inl (kI, 4000, .inl oA)), (b11, .inl (kI, 4000, .inl oN)), (b12, .inl (kI, 4000, .inl oV)), (b13, .inl (kI, 8, .inl (fun j => nI (oK j)))), (b14, .inl (kI, 8, .inl (fun j => nI (oL j))))] H := hP
          have hD : va_D A [(b22, .inl (kI, 8, .inl (fun j => nI (gg j)))), (m0, .inr (6, [.int f0, .int (nI nA), .ref b1, .ref b2, .ref b3, .ref b4, .ref b5, .ref b6, .ref b7, .int (nI (oK 0)), .ref b8, .int (nI (oL 0)), .ref b9, .ref b10, .ref b11, .ref b12, .ref b13, .ref b14, .int (nI 0), .ref b15, .ref b16, .ref b17, .ref b18, .ref b19, .ref b20, .ref b21, .ref b22, .ref b23, .ref b24, .int (nI an), .int (nI ho), .int f3, .int f4, .int f5])), (b1, .inl (kI, 24, .inl bal2_3)), (b5, .inl (kI, 500, .inl ka2_4)), (b6, .inl (kI, 500, .inl kN2_5)), (b7, .inl (kI, 500, .inl kv2_6)), (b9, .inl (kI, 192, .inl oB)), (b10, .inl (kI, 4000, .inl oA)), (b11, .inl (kI, 4000, .inl oN)), (b12, .inl (kI, 4000, .inl oV)), (b13, .inl (kI, 8, .inl (fun j => nI (oK j)))), (b14, .inl (kI, 8, .inl (fun j => nI (oL j))))] := hD
          refine lv_aload_n hx hb dMod_end_51 rfl (lv_at hl 2 rfl) ?_
          refine lv_iload hx hb dMod_end_52 (lv_at hl 0 rfl) ?_
          refine va_put (D := (dC, dI)) (ci := 6) (v := .int 0) (ty := .int) (C := RMod) (T := TMod) (N := 34) hx hb hts (fun w h => List.mem_cons_of_mem _ (layMod w h)) tyMod tykMod nmMod hown hK hP hD hS 1 rfl rfl 31 (by decide) (hts (.fieldLink RMod 123 "CallLedgerModel" "result" "I") (List.mem_cons_of_mem _ gw675)) (fun _ h9 => h9) rfl (by decide +kernel) rfl rfl (Nat.le_of_ble_eq_true rfl) dMod_end_54 (fun H locs hP hD hS => ?_)
          have hP : va_P (dC, dI) xCl [(b22, .inl (kI, 8, .inl (fun j => nI (gg j)))), (m0, .inr (6, [.int f0, .int (nI nA), .ref b1, .ref b2, .ref b3, .ref b4, .ref b5, .ref b6, .ref b7, .int (nI (oK 0)), .ref b8, .int (nI (oL 0)), .ref b9, .ref b10, .ref b11, .ref b12, .ref b13, .ref b14, .int (nI 0), .ref b15, .ref b16, .ref b17, .ref b18, .ref b19, .ref b20, .ref b21, .ref b22, .ref b23, .ref b24, .int (nI an), .int (nI ho), .int 0, .int f4, .int f5])), (b1, .inl (kI, 24, .inl bal2_3)), (b5, .inl (kI, 500, .inl ka2_4)), (b6, .inl (kI, 500, .inl kN2_5)), (b7, .inl (kI, 500, .inl kv2_6)), (b9, .inl (kI, 192, .inl oB)), (b10, .inl (kI, 4000, .inl oA)), (b11, .inl (kI, 4000, .inl oN)), (b12, .inl (kI, 4000, .inl oV)), (b13, .inl (kI, 8, .inl (fun j => nI (oK j)))), (b14, .inl (kI, 8, .inl (fun j => nI (oL j))))] H := hP
          have hD : va_D A [(b22, .inl (kI, 8, .inl (fun j => nI (gg j)))), (m0, .inr (6, [.int f0, .int (nI nA), .ref b1, .ref b2, .ref b3, .ref b4, .ref b5, .ref b6, .ref b7, .int (nI (oK 0)), .ref b8, .int (nI (oL 0)), .ref b9, .ref b10, .ref b11, .ref b12, .ref b13, .ref b14, .int (nI 0), .ref b15, .ref b16, .ref b17, .ref b18, .ref b19, .ref b20, .ref b21, .ref b22, .ref b23, .ref b24, .int (nI an), .int (nI ho), .int 0, .int f4, .int f5])), (b1, .inl (kI, 24, .inl bal2_3)), (b5, .inl (kI, 500, .inl ka2_4)), (b6, .inl (kI, 500, .inl kN2_5)), (b7, .inl (kI, 500, .inl kv2_6)), (b9, .inl (kI, 192, .inl oB)), (b10, .inl (kI, 4000, .inl oA)), (b11, .inl (kI, 4000, .inl oN)), (b12, .inl (kI, 4000, .inl oV)), (b13, .inl (kI, 8, .inl (fun j => nI (oK j)))), (b14, .inl (kI, 8, .inl (fun j => nI (oL j))))] := hD
          refine lv_aload_n hx hb dMod_end_57 rfl (lv_at hl 2 rfl) ?_
          refine lv_iload_n hx hb dMod_end_58 rfl (lv_at hl 1 rfl) ?_
          refine va_put (D := (dC, dI)) (ci := 6) (v := .int 0) (ty := .int) (C := RMod) (T := TMod) (N := 34) hx hb hts (fun w h => List.mem_cons_of_mem _ (layMod w h)) tyMod tykMod nmMod hown hK hP hD hS 1 rfl rfl 32 (by decide) (hts (.fieldLink RMod 135 "CallLedgerModel" "left" "I") (List.mem_cons_of_mem _ gw676)) (fun _ h9 => h9) rfl (by decide +kernel) rfl rfl (Nat.le_of_ble_eq_true rfl) dMod_end_59 (fun H locs hP hD hS => ?_)
          have hP : va_P (dC, dI) xCl [(b22, .inl (kI, 8, .inl (fun j => nI (gg j)))), (m0, .inr (6, [.int f0, .int (nI nA), .ref b1, .ref b2, .ref b3, .ref b4, .ref b5, .ref b6, .ref b7, .int (nI (oK 0)), .ref b8, .int (nI (oL 0)), .ref b9, .ref b10, .ref b11, .ref b12, .ref b13, .ref b14, .int (nI 0), .ref b15, .ref b16, .ref b17, .ref b18, .ref b19, .ref b20, .ref b21, .ref b22, .ref b23, .ref b24, .int (nI an), .int (nI ho), .int 0, .int 0, .int f5])), (b1, .inl (kI, 24, .inl bal2_3)), (b5, .inl (kI, 500, .inl ka2_4)), (b6, .inl (kI, 500, .inl kN2_5)), (b7, .inl (kI, 500, .inl kv2_6)), (b9, .inl (kI, 192, .inl oB)), (b10, .inl (kI, 4000, .inl oA)), (b11, .inl (kI, 4000, .inl oN)), (b12, .inl (kI, 4000, .inl oV)), (b13, .inl (kI, 8, .inl (fun j => nI (oK j)))), (b14, .inl (kI, 8, .inl (fun j => nI (oL j))))] H := hP
          have hD : va_D A [(b22, .inl (kI, 8, .inl (fun j => nI (gg j)))), (m0, .inr (6, [.int f0, .int (nI nA), .ref b1, .ref b2, .ref b3, .ref b4, .ref b5, .ref b6, .ref b7, .int (nI (oK 0)), .ref b8, .int (nI (oL 0)), .ref b9, .ref b10, .ref b11, .ref b12, .ref b13, .ref b14, .int (nI 0), .ref b15, .ref b16, .ref b17, .ref b18, .ref b19, .ref b20, .ref b21, .ref b22, .ref b23, .ref b24, .int (nI an), .int (nI ho), .int 0, .int 0, .int f5])), (b1, .inl (kI, 24, .inl bal2_3)), (b5, .inl (kI, 500, .inl ka2_4)), (b6, .inl (kI, 500, .inl kN2_5)), (b7, .inl (kI, 500, .inl kv2_6)), (b9, .inl (kI, 192, .inl oB)), (b10, .inl (kI, 4000, .inl oA)), (b11, .inl (kI, 4000, .inl oN)), (b12, .inl (kI, 4000, .inl oV)), (b13, .inl (kI, 8, .inl (fun j => nI (oK j)))), (b14, .inl (kI, 8, .inl (fun j => nI (oL j))))] := hD
          refine lv_aload_n hx hb dMod_end_62 rfl (lv_at hl 2 rfl) ?_
          refine lv_iconst (v := (-1)) hx hb dMod_end_63 (by decide) ?_
          refine va_put (D := (dC, dI)) (ci := 6) (v := .int (-1)) (ty := .int) (C := RMod) (T := TMod) (N := 34) hx hb hts (fun w h => List.mem_cons_of_mem _ (layMod w h)) tyMod tykMod nmMod hown hK hP hD hS 1 rfl rfl 18 (by decide) (hts (.fieldLink RMod 126 "CallLedgerModel" "depth" "I") (List.mem_cons_of_mem _ gw662)) (fun _ h9 => h9) rfl (by decide +kernel) rfl rfl (Nat.le_of_ble_eq_true rfl) dMod_end_64 (fun H locs hP hD hS => ?_)
          have hP : va_P (dC, dI) xCl [(b22, .inl (kI, 8, .inl (fun j => nI (gg j)))), (m0, .inr (6, [.int f0, .int (nI nA), .ref b1, .ref b2, .ref b3, .ref b4, .ref b5, .ref b6, .ref b7, .int (nI (oK 0)), .ref b8, .int (nI (oL 0)), .ref b9, .ref b10, .ref b11, .ref b12, .ref b13, .ref b14, .int (-1), .ref b15, .ref b16, .ref b17, .ref b18, .ref b19, .ref b20, .ref b21, .ref b22, .ref b23, .ref b24, .int (nI an), .int (nI ho), .int 0, .int 0, .int f5])), (b1, .inl (kI, 24, .inl bal2_3)), (b5, .inl (kI, 500, .inl ka2_4)), (b6, .inl (kI, 500, .inl kN2_5)), (b7, .inl (kI, 500, .inl kv2_6)), (b9, .inl (kI, 192, .inl oB)), (b10, .inl (kI, 4000, .inl oA)), (b11, .inl (kI, 4000, .inl oN)), (b12, .inl (kI, 4000, .inl oV)), (b13, .inl (kI, 8, .inl (fun j => nI (oK j)))), (b14, .inl (kI, 8, .inl (fun j => nI (oL j))))] H := hP
          have hD : va_D A [(b22, .inl (kI, 8, .inl (fun j => nI (gg j)))), (m0, .inr (6, [.int f0, .int (nI nA), .ref b1, .ref b2, .ref b3, .ref b4, .ref b5, .ref b6, .ref b7, .int (nI (oK 0)), .ref b8, .int (nI (oL 0)), .ref b9, .ref b10, .ref b11, .ref b12, .ref b13, .ref b14, .int (-1), .ref b15, .ref b16, .ref b17, .ref b18, .ref b19, .ref b20, .ref b21, .ref b22, .ref b23, .ref b24, .int (nI an), .int (nI ho), .int 0, .int 0, .int f5])), (b1, .inl (kI, 24, .inl bal2_3)), (b5, .inl (kI, 500, .inl ka2_4)), (b6, .inl (kI, 500, .inl kN2_5)), (b7, .inl (kI, 500, .inl kv2_6)), (b9, .inl (kI, 192, .inl oB)), (b10, .inl (kI, 4000, .inl oA)), (b11, .inl (kI, 4000, .inl oN)), (b12, .inl (kI, 4000, .inl oV)), (b13, .inl (kI, 8, .inl (fun j => nI (oK j)))), (b14, .inl (kI, 8, .inl (fun j => nI (oL j))))] := hD
          exact hret  ((bal2_3, ka2_4, kN2_5, kv2_6)) _ _ _ (⟨hwmSeg_bal2, hwmSeg_ka2, hwmSeg_kN2, hwmSeg_kv2⟩) (hP.sub [1, 2, 3, 4, 5, 6, 7, 8, 9, 10, 11, 0] rfl) (hD.sub [1, 2, 3, 4, 5, 6, 7, 8, 9, 10, 11, 0] (by decide) rfl) hS dMod_end_67
      · have c29 : ¬ (ho ≤ 1) := fun z9 => c29 ((nI_leI (a := ho) (b := 1) (by omega) (by omega)).mpr z9)
        refine lv_iconst (v := 0) hx hb dMod_end_32 (by decide) ?_
        refine lv_goto (tgt := 37) hx hb dMod_end_33 (by decide) ?_
        refine lv_istore (lv' := [(4, .int 0), (3, .int 0), (0, .ref m0), (1, .int (nI ho)), (2, .int 0)]) hx hb dMod_end_37 hl (by decide) rfl (fun ls hl => ?_)
        refine lv_aload_n hx hb dMod_end_39 rfl (lv_at hl 2 rfl) ?_
        refine va_get (D := (dC, dI)) (ci := 6) (v := .int (nI 0)) (C := RMod) (T := TMod) (N := 34) hx hb hts (fun w h => List.mem_cons_of_mem _ (layMod w h)) hown hK hP 1 rfl rfl 18 (by decide) (hts (.fieldLink RMod 126 "CallLedgerModel" "depth" "I") (List.mem_cons_of_mem _ gw662)) (fun _ h9 => h9) rfl dMod_end_40 ?_
        refine lv_if_ne (tgt := 68) hx hb dMod_end_43 (by decide) (fun c43 => ?_) (fun c43 => ?_)
        · have c43 : ¬ (0 = 0) := fun z9 => c43 ((nI_eq (a := 0) (b := 0) (by omega) (by omega)).mpr z9)
          exfalso; omega
        · have c43 : 0 = 0 := (nI_eq (a := 0) (b := 0) (by omega) (by omega)).mp c43
          refine lv_aload_n hx hb dMod_end_46 rfl (lv_at hl 2 rfl) ?_
          refine lv_iload_n hx hb dMod_end_47 rfl (lv_at hl 3 rfl) ?_
          refine va_put (D := (dC, dI)) (ci := 6) (v := .int (nI ho)) (ty := .int) (C := RMod) (T := TMod) (N := 34) hx hb hts (fun w h => List.mem_cons_of_mem _ (layMod w h)) tyMod tykMod nmMod hown hK hP hD hS 1 rfl rfl 30 (by decide) (hts (.fieldLink RMod 132 "CallLedgerModel" "ended" "I") (List.mem_cons_of_mem _ gw674)) (fun _ h9 => h9) rfl (by decide +kernel) rfl rfl (Nat.le_of_ble_eq_true rfl) dMod_end_48 (fun H locs hP hD hS => ?_)
          have hP : va_P (dC, dI) xCl [(b22, .inl (kI, 8, .inl (fun j => nI (gg j)))), (m0, .inr (6, [.int f0, .int (nI nA), .ref b1, .ref b2, .ref b3, .ref b4, .ref b5, .ref b6, .ref b7, .int (nI (oK 0)), .ref b8, .int (nI (oL 0)), .ref b9, .ref b10, .ref b11, .ref b12, .ref b13, .ref b14, .int (nI 0), .ref b15, .ref b16, .ref b17, .ref b18, .ref b19, .ref b20, .ref b21, .ref b22, .ref b23, .ref b24, .int (nI an), .int (nI ho), .int f3, .int f4, .int f5])), (b1, .inl (kI, 24, .inl bal2_3)), (b5, .inl (kI, 500, .inl ka2_4)), (b6, .inl (kI, 500, .inl kN2_5)), (b7, .inl (kI, 500, .inl kv2_6)), (b9, .inl (kI, 192, .inl oB)), (b10, .inl (kI, 4000, .inl oA)), (b11, .inl (kI, 4000, .inl oN)), (b12, .inl (kI, 4000, .inl oV)), (b13, .inl (kI, 8, .inl (fun j => nI (oK j)))), (b14, .inl (kI, 8, .inl (fun j => nI (oL j))))] H := hP
          have hD : va_D A [(b22, .inl (kI, 8, .inl (fun j => nI (gg j)))), (m0, .inr (6, [.int f0, .int (nI nA), .ref b1, .ref b2, .ref b3, .ref b4, .ref b5, .ref b6, .ref b7, .int (nI (oK 0)), .ref b8, .int (nI (oL 0)), .ref b9, .ref b10, .ref b11, .ref b12, .ref b13, .ref b14, .int (nI 0), .ref b15, .ref b16, .ref b17, .ref b18, .ref b19, .ref b20, .ref b21, .ref b22, .ref b23, .ref b24, .int (nI an), .int (nI ho), .int f3, .int f4, .int f5])), (b1, .inl (kI, 24, .inl bal2_3)), (b5, .inl (kI, 500, .inl ka2_4)), (b6, .inl (kI, 500, .inl kN2_5)), (b7, .inl (kI, 500, .inl kv2_6)), (b9, .inl (kI, 192, .inl oB)), (b10, .inl (kI, 4000, .inl oA)), (b11, .inl (kI, 4000, .inl oN)), (b12, .inl (kI, 4000, .inl oV)), (b13, .inl (kI, 8, .inl (fun j => nI (oK j)))), (b14, .inl (kI, 8, .inl (fun j => nI (oL j))))] := hD
          refine lv_aload_n hx hb dMod_end_51 rfl (lv_at hl 2 rfl) ?_
          refine lv_iload hx hb dMod_end_52 (lv_at hl 0 rfl) ?_
          refine va_put (D := (dC, dI)) (ci := 6) (v := .int 0) (ty := .int) (C := RMod) (T := TMod) (N := 34) hx hb hts (fun w h => List.mem_cons_of_mem _ (layMod w h)) tyMod tykMod nmMod hown hK hP hD hS 1 rfl rfl 31 (by decide) (hts (.fieldLink RMod 123 "CallLedgerModel" "result" "I") (List.mem_cons_of_mem _ gw675)) (fun _ h9 => h9) rfl (by decide +kernel) rfl rfl (Nat.le_of_ble_eq_true rfl) dMod_end_54 (fun H locs hP hD hS => ?_)
          have hP : va_P (dC, dI) xCl [(b22, .inl (kI, 8, .inl (fun j => nI (gg j)))), (m0, .inr (6, [.int f0, .int (nI nA), .ref b1, .ref b2, .ref b3, .ref b4, .ref b5, .ref b6, .ref b7, .int (nI (oK 0)), .ref b8, .int (nI (oL 0)), .ref b9, .ref b10, .ref b11, .ref b12, .ref b13, .ref b14, .int (nI 0), .ref b15, .ref b16, .ref b17, .ref b18, .ref b19, .ref b20, .ref b21, .ref b22, .ref b23, .ref b24, .int (nI an), .int (nI ho), .int 0, .int f4, .int f5])), (b1, .inl (kI, 24, .inl bal2_3)), (b5, .inl (kI, 500, .inl ka2_4)), (b6, .inl (kI, 500, .inl kN2_5)), (b7, .inl (kI, 500, .inl kv2_6)), (b9, .inl (kI, 192, .inl oB)), (b10, .inl (kI, 4000, .inl oA)), (b11, .inl (kI, 4000, .inl oN)), (b12, .inl (kI, 4000, .inl oV)), (b13, .inl (kI, 8, .inl (fun j => nI (oK j)))), (b14, .inl (kI, 8, .inl (fun j => nI (oL j))))] H := hP
          have hD : va_D A [(b22, .inl (kI, 8, .inl (fun j => nI (gg j)))), (m0, .inr (6, [.int f0, .int (nI nA), .ref b1, .ref b2, .ref b3, .ref b4, .ref b5, .ref b6, .ref b7, .int (nI (oK 0)), .ref b8, .int (nI (oL 0)), .ref b9, .ref b10, .ref b11, .ref b12, .ref b13, .ref b14, .int (nI 0), .ref b15, .ref b16, .ref b17, .ref b18, .ref b19, .ref b20, .ref b21, .ref b22, .ref b23, .ref b24, .int (nI an), .int (nI ho), .int 0, .int f4, .int f5])), (b1, .inl (kI, 24, .inl bal2_3)), (b5, .inl (kI, 500, .inl ka2_4)), (b6, .inl (kI, 500, .inl kN2_5)), (b7, .inl (kI, 500, .inl kv2_6)), (b9, .inl (kI, 192, .inl oB)), (b10, .inl (kI, 4000, .inl oA)), (b11, .inl (kI, 4000, .inl oN)), (b12, .inl (kI, 4000, .inl oV)), (b13, .inl (kI, 8, .inl (fun j => nI (oK j)))), (b14, .inl (kI, 8, .inl (fun j => nI (oL j))))] := hD
          refine lv_aload_n hx hb dMod_end_57 rfl (lv_at hl 2 rfl) ?_
          refine lv_iload_n hx hb dMod_end_58 rfl (lv_at hl 1 rfl) ?_
          refine va_put (D := (dC, dI)) (ci := 6) (v := .int 0) (ty := .int) (C := RMod) (T := TMod) (N := 34) hx hb hts (fun w h => List.mem_cons_of_mem _ (layMod w h)) tyMod tykMod nmMod hown hK hP hD hS 1 rfl rfl 32 (by decide) (hts (.fieldLink RMod 135 "CallLedgerModel" "left" "I") (List.mem_cons_of_mem _ gw676)) (fun _ h9 => h9) rfl (by decide +kernel) rfl rfl (Nat.le_of_ble_eq_true rfl) dMod_end_59 (fun H locs hP hD hS => ?_)
          have hP : va_P (dC, dI) xCl [(b22, .inl (kI, 8, .inl (fun j => nI (gg j)))), (m0, .inr (6, [.int f0, .int (nI nA), .ref b1, .ref b2, .ref b3, .ref b4, .ref b5, .ref b6, .ref b7, .int (nI (oK 0)), .ref b8, .int (nI (oL 0)), .ref b9, .ref b10, .ref b11, .ref b12, .ref b13, .ref b14, .int (nI 0), .ref b15, .ref b16, .ref b17, .ref b18, .ref b19, .ref b20, .ref b21, .ref b22, .ref b23, .ref b24, .int (nI an), .int (nI ho), .int 0, .int 0, .int f5])), (b1, .inl (kI, 24, .inl bal2_3)), (b5, .inl (kI, 500, .inl ka2_4)), (b6, .inl (kI, 500, .inl kN2_5)), (b7, .inl (kI, 500, .inl kv2_6)), (b9, .inl (kI, 192, .inl oB)), (b10, .inl (kI, 4000, .inl oA)), (b11, .inl (kI, 4000, .inl oN)), (b12, .inl (kI, 4000, .inl oV)), (b13, .inl (kI, 8, .inl (fun j => nI (oK j)))), (b14, .inl (kI, 8, .inl (fun j => nI (oL j))))] H := hP
          have hD : va_D A [(b22, .inl (kI, 8, .inl (fun j => nI (gg j)))), (m0, .inr (6, [.int f0, .int (nI nA), .ref b1, .ref b2, .ref b3, .ref b4, .ref b5, .ref b6, .ref b7, .int (nI (oK 0)), .ref b8, .int (nI (oL 0)), .ref b9, .ref b10, .ref b11, .ref b12, .ref b13, .ref b14, .int (nI 0), .ref b15, .ref b16, .ref b17, .ref b18, .ref b19, .ref b20, .ref b21, .ref b22, .ref b23, .ref b24, .int (nI an), .int (nI ho), .int 0, .int 0, .int f5])), (b1, .inl (kI, 24, .inl bal2_3)), (b5, .inl (kI, 500, .inl ka2_4)), (b6, .inl (kI, 500, .inl kN2_5)), (b7, .inl (kI, 500, .inl kv2_6)), (b9, .inl (kI, 192, .inl oB)), (b10, .inl (kI, 4000, .inl oA)), (b11, .inl (kI, 4000, .inl oN)), (b12, .inl (kI, 4000, .inl oV)), (b13, .inl (kI, 8, .inl (fun j => nI (oK j)))), (b14, .inl (kI, 8, .inl (fun j => nI (oL j))))] := hD
          refine lv_aload_n hx hb dMod_end_62 rfl (lv_at hl 2 rfl) ?_
          refine lv_iconst (v := (-1)) hx hb dMod_end_63 (by decide) ?_
          refine va_put (D := (dC, dI)) (ci := 6) (v := .int (-1)) (ty := .int) (C := RMod) (T := TMod) (N := 34) hx hb hts (fun w h => List.mem_cons_of_mem _ (layMod w h)) tyMod tykMod nmMod hown hK hP hD hS 1 rfl rfl 18 (by decide) (hts (.fieldLink RMod 126 "CallLedgerModel" "depth" "I") (List.mem_cons_of_mem _ gw662)) (fun _ h9 => h9) rfl (by decide +kernel) rfl rfl (Nat.le_of_ble_eq_true rfl) dMod_end_64 (fun H locs hP hD hS => ?_)
          have hP : va_P (dC, dI) xCl [(b22, .inl (kI, 8, .inl (fun j => nI (gg j)))), (m0, .inr (6, [.int f0, .int (nI nA), .ref b1, .ref b2, .ref b3, .ref b4, .ref b5, .ref b6, .ref b7, .int (nI (oK 0)), .ref b8, .int (nI (oL 0)), .ref b9, .ref b10, .ref b11, .ref b12, .ref b13, .ref b14, .int (-1), .ref b15, .ref b16, .ref b17, .ref b18, .ref b19, .ref b20, .ref b21, .ref b22, .ref b23, .ref b24, .int (nI an), .int (nI ho), .int 0, .int 0, .int f5])), (b1, .inl (kI, 24, .inl bal2_3)), (b5, .inl (kI, 500, .inl ka2_4)), (b6, .inl (kI, 500, .inl kN2_5)), (b7, .inl (kI, 500, .inl kv2_6)), (b9, .inl (kI, 192, .inl oB)), (b10, .inl (kI, 4000, .inl oA)), (b11, .inl (kI, 4000, .inl oN)), (b12, .inl (kI, 4000, .inl oV)), (b13, .inl (kI, 8, .inl (fun j => nI (oK j)))), (b14, .inl (kI, 8, .inl (fun j => nI (oL j))))] H := hP
          have hD : va_D A [(b22, .inl (kI, 8, .inl (fun j => nI (gg j)))), (m0, .inr (6, [.int f0, .int (nI nA), .ref b1, .ref b2, .ref b3, .ref b4, .ref b5, .ref b6, .ref b7, .int (nI (oK 0)), .ref b8, .int (nI (oL 0)), .ref b9, .ref b10, .ref b11, .ref b12, .ref b13, .ref b14, .int (-1), .ref b15, .ref b16, .ref b17, .ref b18, .ref b19, .ref b20, .ref b21, .ref b22, .ref b23, .ref b24, .int (nI an), .int (nI ho), .int 0, .int 0, .int f5])), (b1, .inl (kI, 24, .inl bal2_3)), (b5, .inl (kI, 500, .inl ka2_4)), (b6, .inl (kI, 500, .inl kN2_5)), (b7, .inl (kI, 500, .inl kv2_6)), (b9, .inl (kI, 192, .inl oB)), (b10, .inl (kI, 4000, .inl oA)), (b11, .inl (kI, 4000, .inl oN)), (b12, .inl (kI, 4000, .inl oV)), (b13, .inl (kI, 8, .inl (fun j => nI (oK j)))), (b14, .inl (kI, 8, .inl (fun j => nI (oL j))))] := hD
          exact hret  ((bal2_3, ka2_4, kN2_5, kv2_6)) _ _ _ (⟨hwmSeg_bal2, hwmSeg_ka2, hwmSeg_kN2, hwmSeg_kv2⟩) (hP.sub [1, 2, 3, 4, 5, 6, 7, 8, 9, 10, 11, 0] rfl) (hD.sub [1, 2, 3, 4, 5, 6, 7, 8, 9, 10, 11, 0] (by decide) rfl) hS dMod_end_67

set_option maxHeartbeats 4000000 in
set_option maxRecDepth 100000 in
theorem kM_endAI (l : Launch) (dC : Nat → ClassId) (dI : Nat → Nat → Nat) (kI kJ kZ : ClassId) (m0 : Nat) (b1 : Nat) (b2 : Nat) (b3 : Nat) (b4 : Nat) (b5 : Nat) (b6 : Nat) (b7 : Nat) (b8 : Nat) (b9 : Nat) (b10 : Nat) (b11 : Nat) (b12 : Nat) (b13 : Nat) (b14 : Nat) (b15 : Nat) (b16 : Nat) (b17 : Nat) (b18 : Nat) (b19 : Nat) (b20 : Nat) (b21 : Nat) (b22 : Nat) (b23 : Nat) (b24 : Nat) (nA : Nat) (kn : Nat) (ln : Nat) (an : Nat) (f0 : Int32) (f2 : Int32) (f3 : Int32) (f4 : Int32) (f5 : Int32) (d : Nat) (v : Int32) (gg : Nat → Nat) (sk : Nat → Int32) (ht : Nat → Nat) (pp : Nat → Nat) (hd8 : d < 7) (hht : ht d ≤ 30) :
    XM stX l yMod_end wMod_end { frames := 1, cells := 0, slots := 0, locals := 21 } (dC, dI) xCl (x_T kI kJ kZ) [(m0, .inr (6, [.int f0, .int (nI nA), .ref b1, .ref b2, .ref b3, .ref b4, .ref b5, .ref b6, .ref b7, .int (nI kn), .ref b8, .int (nI ln), .ref b9, .ref b10, .ref b11, .ref b12, .ref b13, .ref b14, .int (nI (d + 1)), .ref b15, .ref b16, .ref b17, .ref b18, .ref b19, .ref b20, .ref b21, .ref b22, .ref b23, .ref b24, .int (nI an), .int f2, .int f3, .int f4, .int f5])), (b22, .inl (kI, 8, .inl (fun j => nI (gg j)))), (b15, .inl (kI, 256, .inl sk)), (b16, .inl (kI, 8, .inl (fun j => nI (ht j)))), (b17, .inl (kI, 8, .inl (fun j => nI (pp j))))] [.ref m0, .int 0, .int v] 0 0 x_eV (fun (r : Unit) (u : Unit) => True) (fun (u : Unit) => [(m0, .inr (6, [.int f0, .int (nI nA), .ref b1, .ref b2, .ref b3, .ref b4, .ref b5, .ref b6, .ref b7, .int (nI kn), .ref b8, .int (nI ln), .ref b9, .ref b10, .ref b11, .ref b12, .ref b13, .ref b14, .int (nI d), .ref b15, .ref b16, .ref b17, .ref b18, .ref b19, .ref b20, .ref b21, .ref b22, .ref b23, .ref b24, .int (nI an), .int f2, .int f3, .int f4, .int f5])), (b22, .inl (kI, 8, .inl (fun j => nI (va_up gg d (gg d + gg (d + 1)) j)))), (b16, .inl (kI, 8, .inl (fun j => nI (va_up (va_up ht d (ht d + 1)) d (ht d + 1 + 1) j)))), (b17, .inl (kI, 8, .inl (fun j => nI (va_up pp d (pp d + 1) j)))), (b15, .inl (kI, 256, .inl (upd (upd sk (32 * d + ht d) v) (32 * d + (ht d + 1)) 1)))]) := by
  refine XM.ofV (cc := cMod_end) (maxL := 5) (by decide) rfl (Nat.le_of_ble_eq_true rfl) ?_
  intro p e s m below meth c A Q hx hb hr hml hown hts hlocks hin hA hK hP hD hX hS ls hl hret
  have hl : lv_has ls 5 [(0, .ref m0), (1, .int 0), (2, .int v)] := hl
  refine lv_iload_n hx hb dMod_end_0 rfl (lv_at hl 1 rfl) ?_
  refine lv_if_le (tgt := 8) hx hb dMod_end_1 (by decide) (fun c1 => ?_) (fun c1 => ?_)
  · refine lv_iload_n hx hb dMod_end_8 rfl (lv_at hl 1 rfl) ?_
    refine lv_iconst (v := 1) hx hb dMod_end_9 (by decide) ?_
    refine lv_icmp_le (tgt := 17) hx hb dMod_end_10 (by decide) (fun c10 => ?_) (fun c10 => ?_)
    · refine lv_aload_n hx hb dMod_end_17 rfl (lv_at hl 0 rfl) ?_
      refine va_get (D := (dC, dI)) (ci := 6) (v := .ref b22) (C := RMod) (T := TMod) (N := 34) hx hb hts (fun w h => List.mem_cons_of_mem _ (layMod w h)) hown hK hP 0 rfl rfl 26 (by decide) (hts (.fieldLink RMod 74 "CallLedgerModel" "gases" "[I") (List.mem_cons_of_mem _ gw670)) (fun _ h9 => h9) rfl dMod_end_18 ?_
      refine lv_aload_n hx hb dMod_end_21 rfl (lv_at hl 0 rfl) ?_
      refine va_get (D := (dC, dI)) (ci := 6) (v := .int (nI (d + 1))) (C := RMod) (T := TMod) (N := 34) hx hb hts (fun w h => List.mem_cons_of_mem _ (layMod w h)) hown hK hP 0 rfl rfl 18 (by decide) (hts (.fieldLink RMod 126 "CallLedgerModel" "depth" "I") (List.mem_cons_of_mem _ gw662)) (fun _ h9 => h9) rfl dMod_end_22 ?_
      refine x_iald (j := d + 1) hx hb hK hP 1 0 rfl rfl rfl (by omega) (by omega) dMod_end_25 ?_
      refine lv_istore_n (lv' := [(3, .int (nI (gg (d + 1)))), (0, .ref m0), (1, .int 0), (2, .int v)]) hx hb dMod_end_26 rfl hl (by decide) rfl (fun ls hl => ?_)
      refine lv_iload_n hx hb dMod_end_27 rfl (lv_at hl 2 rfl) ?_
      refine lv_iconst (v := 1) hx hb dMod_end_28 (by decide) ?_
      refine lv_icmp_le (tgt := 36) hx hb dMod_end_29 (by decide) (fun c29 => ?_) (fun c29 => ?_)
      · refine lv_iload_n hx hb dMod_end_36 rfl (lv_at hl 3 rfl) ?_
        refine lv_istore (lv' := [(4, .int v), (3, .int (nI (gg (d + 1)))), (0, .ref m0), (1, .int 0), (2, .int v)]) hx hb dMod_end_37 hl (by decide) rfl (fun ls hl => ?_)
        refine lv_aload_n hx hb dMod_end_39 rfl (lv_at hl 2 rfl) ?_
        refine va_get (D := (dC, dI)) (ci := 6) (v := .int (nI (d + 1))) (C := RMod) (T := TMod) (N := 34) hx hb hts (fun w h => List.mem_cons_of_mem _ (layMod w h)) hown hK hP 0 rfl rfl 18 (by decide) (hts (.fieldLink RMod 126 "CallLedgerModel" "depth" "I") (List.mem_cons_of_mem _ gw662)) (fun _ h9 => h9) rfl dMod_end_40 ?_
        refine lv_if_ne (tgt := 68) hx hb dMod_end_43 (by decide) (fun c43 => ?_) (fun c43 => ?_)
        · have c43 : ¬ ((d + 1) = 0) := fun z9 => c43 ((nI_eq (a := (d + 1)) (b := 0) (by omega) (by omega)).mpr z9)
          refine lv_aload_n hx hb dMod_end_68 rfl (lv_at hl 2 rfl) ?_
          refine lv_dup hx hb dMod_end_69 rfl ?_
          refine va_get (D := (dC, dI)) (ci := 6) (v := .int (nI (d + 1))) (C := RMod) (T := TMod) (N := 34) hx hb hts (fun w h => List.mem_cons_of_mem _ (layMod w h)) hown hK hP 0 rfl rfl 18 (by decide) (hts (.fieldLink RMod 126 "CallLedgerModel" "depth" "I") (List.mem_cons_of_mem _ gw662)) (fun _ h9 => h9) rfl dMod_end_70 ?_
          refine lv_iconst (v := 1) hx hb dMod_end_73 (by decide) ?_
          refine lv_isub hx hb dMod_end_74 ?_
          refine x_topi (y := nI d) ((x_pred (by omega)).trans (by rw [Nat.add_sub_cancel])) ?_
          refine va_put (D := (dC, dI)) (ci := 6) (v := .int (nI d)) (ty := .int) (C := RMod) (T := TMod) (N := 34) hx hb hts (fun w h => List.mem_cons_of_mem _ (layMod w h)) tyMod tykMod nmMod hown hK hP hD hS 0 rfl rfl 18 (by decide) (hts (.fieldLink RMod 126 "CallLedgerModel" "depth" "I") (List.mem_cons_of_mem _ gw662)) (fun _ h9 => h9) rfl (by decide +kernel) rfl rfl (Nat.le_of_ble_eq_true rfl) dMod_end_75 (fun H locs hP hD hS => ?_)
          have hP : va_P (dC, dI) xCl [(m0, .inr (6, [.int f0, .int (nI nA), .ref b1, .ref b2, .ref b3, .ref b4, .ref b5, .ref b6, .ref b7, .int (nI kn), .ref b8, .int (nI ln), .ref b9, .ref b10, .ref b11, .ref b12, .ref b13, .ref b14, .int (nI d), .ref b15, .ref b16, .ref b17, .ref b18, .ref b19, .ref b20, .ref b21, .ref b22, .ref b23, .ref b24, .int (nI an), .int f2, .int f3, .int f4, .int f5])), (b22, .inl (kI, 8, .inl (fun j => nI (gg j)))), (b15, .inl (kI, 256, .inl sk)), (b16, .inl (kI, 8, .inl (fun j => nI (ht j)))), (b17, .inl (kI, 8, .inl (fun j => nI (pp j))))] H := hP
          have hD : va_D A [(m0, .inr (6, [.int f0, .int (nI nA), .ref b1, .ref b2, .ref b3, .ref b4, .ref b5, .ref b6, .ref b7, .int (nI kn), .ref b8, .int (nI ln), .ref b9, .ref b10, .ref b11, .ref b12, .ref b13, .ref b14, .int (nI d), .ref b15, .ref b16, .ref b17, .ref b18, .ref b19, .ref b20, .ref b21, .ref b22, .ref b23, .ref b24, .int (nI an), .int f2, .int f3, .int f4, .int f5])), (b22, .inl (kI, 8, .inl (fun j => nI (gg j)))), (b15, .inl (kI, 256, .inl sk)), (b16, .inl (kI, 8, .inl (fun j => nI (ht j)))), (b17, .inl (kI, 8, .inl (fun j => nI (pp j))))] := hD
          refine lv_aload_n hx hb dMod_end_78 rfl (lv_at hl 2 rfl) ?_
          refine va_get (D := (dC, dI)) (ci := 6) (v := .ref b22) (C := RMod) (T := TMod) (N := 34) hx hb hts (fun w h => List.mem_cons_of_mem _ (layMod w h)) hown hK hP 0 rfl rfl 26 (by decide) (hts (.fieldLink RMod 74 "CallLedgerModel" "gases" "[I") (List.mem_cons_of_mem _ gw670)) (fun _ h9 => h9) rfl dMod_end_79 ?_
          refine lv_aload_n hx hb dMod_end_82 rfl (lv_at hl 2 rfl) ?_
          refine va_get (D := (dC, dI)) (ci := 6) (v := .int (nI d)) (C := RMod) (T := TMod) (N := 34) hx hb hts (fun w h => List.mem_cons_of_mem _ (layMod w h)) hown hK hP 0 rfl rfl 18 (by decide) (hts (.fieldLink RMod 126 "CallLedgerModel" "depth" "I") (List.mem_cons_of_mem _ gw662)) (fun _ h9 => h9) rfl dMod_end_83 ?_
          refine lv_aload_n hx hb dMod_end_86 rfl (lv_at hl 2 rfl) ?_
          refine va_get (D := (dC, dI)) (ci := 6) (v := .ref b22) (C := RMod) (T := TMod) (N := 34) hx hb hts (fun w h => List.mem_cons_of_mem _ (layMod w h)) hown hK hP 0 rfl rfl 26 (by decide) (hts (.fieldLink RMod 74 "CallLedgerModel" "gases" "[I") (List.mem_cons_of_mem _ gw670)) (fun _ h9 => h9) rfl dMod_end_87 ?_
          refine lv_aload_n hx hb dMod_end_90 rfl (lv_at hl 2 rfl) ?_
          refine va_get (D := (dC, dI)) (ci := 6) (v := .int (nI d)) (C := RMod) (T := TMod) (N := 34) hx hb hts (fun w h => List.mem_cons_of_mem _ (layMod w h)) hown hK hP 0 rfl rfl 18 (by decide) (hts (.fieldLink RMod 126 "CallLedgerModel" "depth" "I") (List.mem_cons_of_mem _ gw662)) (fun _ h9 => h9) rfl dMod_end_91 ?_
          refine x_iald (j := d) hx hb hK hP 1 0 rfl rfl rfl (by omega) (by omega) dMod_end_94 ?_
          refine lv_iload_n hx hb dMod_end_95 rfl (lv_at hl 1 rfl) ?_
          refine lv_iadd hx hb dMod_end_96 ?_
          refine x_topi (y := nI (gg d + (gg (d + 1)))) (nI_add _ _) ?_
          refine x_iast (j := d) hx hb hK hP hD hS 1 0 rfl rfl rfl (by omega) (by omega) dMod_end_97 (fun H locs hP hD hS => ?_)
          have hP : va_P (dC, dI) xCl [(m0, .inr (6, [.int f0, .int (nI nA), .ref b1, .ref b2, .ref b3, .ref b4, .ref b5, .ref b6, .ref b7, .int (nI kn), .ref b8, .int (nI ln), .ref b9, .ref b10, .ref b11, .ref b12, .ref b13, .ref b14, .int (nI d), .ref b15, .ref b16, .ref b17, .ref b18, .ref b19, .ref b20, .ref b21, .ref b22, .ref b23, .ref b24, .int (nI an), .int f2, .int f3, .int f4, .int f5])), (b22, .inl (kI, 8, .inl (upd (fun j => nI (gg j)) d (nI (gg d + (gg (d + 1))))))), (b15, .inl (kI, 256, .inl sk)), (b16, .inl (kI, 8, .inl (fun j => nI (ht j)))), (b17, .inl (kI, 8, .inl (fun j => nI (pp j))))] H := hP
          have hD : va_D A [(m0, .inr (6, [.int f0, .int (nI nA), .ref b1, .ref b2, .ref b3, .ref b4, .ref b5, .ref b6, .ref b7, .int (nI kn), .ref b8, .int (nI ln), .ref b9, .ref b10, .ref b11, .ref b12, .ref b13, .ref b14, .int (nI d), .ref b15, .ref b16, .ref b17, .ref b18, .ref b19, .ref b20, .ref b21, .ref b22, .ref b23, .ref b24, .int (nI an), .int f2, .int f3, .int f4, .int f5])), (b22, .inl (kI, 8, .inl (upd (fun j => nI (gg j)) d (nI (gg d + (gg (d + 1))))))), (b15, .inl (kI, 256, .inl sk)), (b16, .inl (kI, 8, .inl (fun j => nI (ht j)))), (b17, .inl (kI, 8, .inl (fun j => nI (pp j))))] := hD
          rw [(show upd (fun j => nI (gg j)) d (nI (gg d + (gg (d + 1)))) = fun j => nI (va_up gg d (gg d + (gg (d + 1))) j) from x_updL gg d (gg d + (gg (d + 1))))] at hP hD
          have hP : va_P (dC, dI) xCl [(m0, .inr (6, [.int f0, .int (nI nA), .ref b1, .ref b2, .ref b3, .ref b4, .ref b5, .ref b6, .ref b7, .int (nI kn), .ref b8, .int (nI ln), .ref b9, .ref b10, .ref b11, .ref b12, .ref b13, .ref b14, .int (nI d), .ref b15, .ref b16, .ref b17, .ref b18, .ref b19, .ref b20, .ref b21, .ref b22, .ref b23, .ref b24, .int (nI an), .int f2, .int f3, .int f4, .int f5])), (b22, .inl (kI, 8, .inl (fun j => nI (va_up gg d (gg d + (gg (d + 1))) j)))), (b15, .inl (kI, 256, .inl sk)), (b16, .inl (kI, 8, .inl (fun j => nI (ht j)))), (b17, .inl (kI, 8, .inl (fun j => nI (pp j))))] H := hP
          have hD : va_D A [(m0, .inr (6, [.int f0, .int (nI nA), .ref b1, .ref b2, .ref b3, .ref b4, .ref b5, .ref b6, .ref b7, .int (nI kn), .ref b8, .int (nI ln), .ref b9, .ref b10, .ref b11, .ref b12, .ref b13, .ref b14, .int (nI d), .ref b15, .ref b16, .ref b17, .ref b18, .ref b19, .ref b20, .ref b21, .ref b22, .ref b23, .ref b24, .int (nI an), .int f2, .int f3, .int f4, .int f5])), (b22, .inl (kI, 8, .inl (fun j => nI (va_up gg d (gg d + (gg (d + 1))) j)))), (b15, .inl (kI, 256, .inl sk)), (b16, .inl (kI, 8, .inl (fun j => nI (ht j)))), (b17, .inl (kI, 8, .inl (fun j => nI (pp j))))] := hD
          refine lv_aload_n hx hb dMod_end_98 rfl (lv_at hl 2 rfl) ?_
          refine lv_iload hx hb dMod_end_99 (lv_at hl 0 rfl) ?_
          refine XM.callVv (As := [.int v]) (rest := []) (wr := [(b22, .inl (kI, 8, .inl (fun j => nI (va_up gg d (gg d + (gg (d + 1))) j)))), (b17, .inl (kI, 8, .inl (fun j => nI (pp j))))]) stX_ok ⟨hx, hb, hml, hown, hts⟩ (kM_push l dC dI kI kJ kZ m0 b1 b2 b3 b4 b5 b6 b7 b8 b9 b10 b11 b12 b13 b14 b15 b16 b17 b18 b19 b20 b21 b22 b23 b24 nA kn ln an f0 f2 f3 f4 f5 d sk ht (ht d) v (by first | assumption | omega) (by first | assumption | rfl | exact va_up_at) (by first | assumption | omega)) (cwV 1 hts (x_gV gw836 gw838 gw26 gw43 gw839) rfl rfl rfl (by decide +kernel) ⟨Nat.le_of_ble_eq_true rfl, Nat.le_of_ble_eq_true rfl⟩) hK hP hD hS hA hX [0, 2, 3] [1, 4] rfl rfl (by decide) (by decide) (by decide) rfl rfl rfl rfl hl.1 (Nat.le_of_ble_eq_true rfl) dMod_end_101 ⟨Nat.le_of_ble_eq_true rfl, Nat.le_of_ble_eq_true rfl⟩ (fun u_1 H locs hw hP hD hS => ?_)
          have hP : va_P (dC, dI) xCl [(b22, .inl (kI, 8, .inl (fun j => nI (va_up gg d (gg d + (gg (d + 1))) j)))), (b17, .inl (kI, 8, .inl (fun j => nI (pp j)))), (m0, .inr (6, [.int f0, .int (nI nA), .ref b1, .ref b2, .ref b3, .ref b4, .ref b5, .ref b6, .ref b7, .int (nI kn), .ref b8, .int (nI ln), .ref b9, .ref b10, .ref b11, .ref b12, .ref b13, .ref b14, .int (nI d), .ref b15, .ref b16, .ref b17, .ref b18, .ref b19, .ref b20, .ref b21, .ref b22, .ref b23, .ref b24, .int (nI an), .int f2, .int f3, .int f4, .int f5])), (b15, .inl (kI, 256, .inl (upd sk (32 * d + (ht d)) v))), (b16, .inl (kI, 8, .inl (fun j => nI (va_up ht d ((ht d) + 1) j))))] H := hP
          have hD : va_D A [(b22, .inl (kI, 8, .inl (fun j => nI (va_up gg d (gg d + (gg (d + 1))) j)))), (b17, .inl (kI, 8, .inl (fun j => nI (pp j)))), (m0, .inr (6, [.int f0, .int (nI nA), .ref b1, .ref b2, .ref b3, .ref b4, .ref b5, .ref b6, .ref b7, .int (nI kn), .ref b8, .int (nI ln), .ref b9, .ref b10, .ref b11, .ref b12, .ref b13, .ref b14, .int (nI d), .ref b15, .ref b16, .ref b17, .ref b18, .ref b19, .ref b20, .ref b21, .ref b22, .ref b23, .ref b24, .int (nI an), .int f2, .int f3, .int f4, .int f5])), (b15, .inl (kI, 256, .inl (upd sk (32 * d + (ht d)) v))), (b16, .inl (kI, 8, .inl (fun j => nI (va_up ht d ((ht d) + 1) j))))] := hD
          refine lv_aload_n hx hb dMod_end_104 rfl (lv_at hl 2 rfl) ?_
          refine lv_iload_n hx hb dMod_end_105 rfl (lv_at hl 3 rfl) ?_
          refine lv_if_ne (tgt := 113) hx hb dMod_end_106 (by decide) (fun c106 => ?_) (fun c106 => ?_)
          · exact absurd c106 (by decide)
          · refine lv_iconst (v := 1) hx hb dMod_end_109 (by decide) ?_
            refine lv_goto (tgt := 114) hx hb dMod_end_110 (by decide) ?_
            refine XM.callVv (As := [.int 1]) (rest := []) (wr := [(b22, .inl (kI, 8, .inl (fun j => nI (va_up gg d (gg d + (gg (d + 1))) j)))), (b17, .inl (kI, 8, .inl (fun j => nI (pp j))))]) stX_ok ⟨hx, hb, hml, hown, hts⟩ (kM_push l dC dI kI kJ kZ m0 b1 b2 b3 b4 b5 b6 b7 b8 b9 b10 b11 b12 b13 b14 b15 b16 b17 b18 b19 b20 b21 b22 b23 b24 nA kn ln an f0 f2 f3 f4 f5 d (upd sk (32 * d + (ht d)) v) (va_up ht d ((ht d) + 1)) ((ht d) + 1) 1 (by first | assumption | omega) (by first | assumption | rfl | exact va_up_at) (by first | assumption | omega)) (cwV 1 hts (x_gV gw836 gw838 gw26 gw43 gw839) rfl rfl rfl (by decide +kernel) ⟨Nat.le_of_ble_eq_true rfl, Nat.le_of_ble_eq_true rfl⟩) hK hP hD hS hA hX [2, 3, 4] [0, 1] rfl rfl (by decide) (by decide) (by decide) rfl rfl rfl rfl hl.1 (Nat.le_of_ble_eq_true rfl) dMod_end_114 ⟨Nat.le_of_ble_eq_true rfl, Nat.le_of_ble_eq_true rfl⟩ (fun u_3 H locs hw hP hD hS => ?_)
            have hP : va_P (dC, dI) xCl [(b22, .inl (kI, 8, .inl (fun j => nI (va_up gg d (gg d + (gg (d + 1))) j)))), (b17, .inl (kI, 8, .inl (fun j => nI (pp j)))), (m0, .inr (6, [.int f0, .int (nI nA), .ref b1, .ref b2, .ref b3, .ref b4, .ref b5, .ref b6, .ref b7, .int (nI kn), .ref b8, .int (nI ln), .ref b9, .ref b10, .ref b11, .ref b12, .ref b13, .ref b14, .int (nI d), .ref b15, .ref b16, .ref b17, .ref b18, .ref b19, .ref b20, .ref b21, .ref b22, .ref b23, .ref b24, .int (nI an), .int f2, .int f3, .int f4, .int f5])), (b15, .inl (kI, 256, .inl (upd (upd sk (32 * d + (ht d)) v) (32 * d + ((ht d) + 1)) 1))), (b16, .inl (kI, 8, .inl (fun j => nI (va_up (va_up ht d ((ht d) + 1)) d (((ht d) + 1) + 1) j))))] H := hP
            have hD : va_D A [(b22, .inl (kI, 8, .inl (fun j => nI (va_up gg d (gg d + (gg (d + 1))) j)))), (b17, .inl (kI, 8, .inl (fun j => nI (pp j)))), (m0, .inr (6, [.int f0, .int (nI nA), .ref b1, .ref b2, .ref b3, .ref b4, .ref b5, .ref b6, .ref b7, .int (nI kn), .ref b8, .int (nI ln), .ref b9, .ref b10, .ref b11, .ref b12, .ref b13, .ref b14, .int (nI d), .ref b15, .ref b16, .ref b17, .ref b18, .ref b19, .ref b20, .ref b21, .ref b22, .ref b23, .ref b24, .int (nI an), .int f2, .int f3, .int f4, .int f5])), (b15, .inl (kI, 256, .inl (upd (upd sk (32 * d + (ht d)) v) (32 * d + ((ht d) + 1)) 1))), (b16, .inl (kI, 8, .inl (fun j => nI (va_up (va_up ht d ((ht d) + 1)) d (((ht d) + 1) + 1) j))))] := hD
            refine lv_aload_n hx hb dMod_end_117 rfl (lv_at hl 2 rfl) ?_
            refine va_get (D := (dC, dI)) (ci := 6) (v := .ref b17) (C := RMod) (T := TMod) (N := 34) hx hb hts (fun w h => List.mem_cons_of_mem _ (layMod w h)) hown hK hP 2 rfl rfl 21 (by decide) (hts (.fieldLink RMod 59 "CallLedgerModel" "places" "[I") (List.mem_cons_of_mem _ gw665)) (fun _ h9 => h9) rfl dMod_end_118 ?_
            refine lv_aload_n hx hb dMod_end_121 rfl (lv_at hl 2 rfl) ?_
            refine va_get (D := (dC, dI)) (ci := 6) (v := .int (nI d)) (C := RMod) (T := TMod) (N := 34) hx hb hts (fun w h => List.mem_cons_of_mem _ (layMod w h)) hown hK hP 2 rfl rfl 18 (by decide) (hts (.fieldLink RMod 126 "CallLedgerModel" "depth" "I") (List.mem_cons_of_mem _ gw662)) (fun _ h9 => h9) rfl dMod_end_122 ?_
            refine lv_dup2_11 hx hb dMod_end_125 rfl rfl ?_
            refine x_iald (j := d) hx hb hK hP 1 0 rfl rfl rfl (by omega) (by omega) dMod_end_126 ?_
            refine lv_iconst (v := 1) hx hb dMod_end_127 (by decide) ?_
            refine lv_iadd hx hb dMod_end_128 ?_
            refine x_topi (y := nI (pp d + 1)) (nI_1 _) ?_
            refine x_iast (j := d) hx hb hK hP hD hS 1 0 rfl rfl rfl (by omega) (by omega) dMod_end_129 (fun H locs hP hD hS => ?_)
            have hP : va_P (dC, dI) xCl [(b22, .inl (kI, 8, .inl (fun j => nI (va_up gg d (gg d + (gg (d + 1))) j)))), (b17, .inl (kI, 8, .inl (upd (fun j => nI (pp j)) d (nI (pp d + 1))))), (m0, .inr (6, [.int f0, .int (nI nA), .ref b1, .ref b2, .ref b3, .ref b4, .ref b5, .ref b6, .ref b7, .int (nI kn), .ref b8, .int (nI ln), .ref b9, .ref b10, .ref b11, .ref b12, .ref b13, .ref b14, .int (nI d), .ref b15, .ref b16, .ref b17, .ref b18, .ref b19, .ref b20, .ref b21, .ref b22, .ref b23, .ref b24, .int (nI an), .int f2, .int f3, .int f4, .int f5])), (b15, .inl (kI, 256, .inl (upd (upd sk (32 * d + (ht d)) v) (32 * d + ((ht d) + 1)) 1))), (b16, .inl (kI, 8, .inl (fun j => nI (va_up (va_up ht d ((ht d) + 1)) d (((ht d) + 1) + 1) j))))] H := hP
            have hD : va_D A [(b22, .inl (kI, 8, .inl (fun j => nI (va_up gg d (gg d + (gg (d + 1))) j)))), (b17, .inl (kI, 8, .inl (upd (fun j => nI (pp j)) d (nI (pp d + 1))))), (m0, .inr (6, [.int f0, .int (nI nA), .ref b1, .ref b2, .ref b3, .ref b4, .ref b5, .ref b6, .ref b7, .int (nI kn), .ref b8, .int (nI ln), .ref b9, .ref b10, .ref b11, .ref b12, .ref b13, .ref b14, .int (nI d), .ref b15, .ref b16, .ref b17, .ref b18, .ref b19, .ref b20, .ref b21, .ref b22, .ref b23, .ref b24, .int (nI an), .int f2, .int f3, .int f4, .int f5])), (b15, .inl (kI, 256, .inl (upd (upd sk (32 * d + (ht d)) v) (32 * d + ((ht d) + 1)) 1))), (b16, .inl (kI, 8, .inl (fun j => nI (va_up (va_up ht d ((ht d) + 1)) d (((ht d) + 1) + 1) j))))] := hD
            rw [(show upd (fun j => nI (pp j)) d (nI (pp d + 1)) = fun j => nI (va_up pp d (pp d + 1) j) from x_updL pp d (pp d + 1))] at hP hD
            have hP : va_P (dC, dI) xCl [(b22, .inl (kI, 8, .inl (fun j => nI (va_up gg d (gg d + (gg (d + 1))) j)))), (b17, .inl (kI, 8, .inl (fun j => nI (va_up pp d (pp d + 1) j)))), (m0, .inr (6, [.int f0, .int (nI nA), .ref b1, .ref b2, .ref b3, .ref b4, .ref b5, .ref b6, .ref b7, .int (nI kn), .ref b8, .int (nI ln), .ref b9, .ref b10, .ref b11, .ref b12, .ref b13, .ref b14, .int (nI d), .ref b15, .ref b16, .ref b17, .ref b18, .ref b19, .ref b20, .ref b21, .ref b22, .ref b23, .ref b24, .int (nI an), .int f2, .int f3, .int f4, .int f5])), (b15, .inl (kI, 256, .inl (upd (upd sk (32 * d + (ht d)) v) (32 * d + ((ht d) + 1)) 1))), (b16, .inl (kI, 8, .inl (fun j => nI (va_up (va_up ht d ((ht d) + 1)) d (((ht d) + 1) + 1) j))))] H := hP
            have hD : va_D A [(b22, .inl (kI, 8, .inl (fun j => nI (va_up gg d (gg d + (gg (d + 1))) j)))), (b17, .inl (kI, 8, .inl (fun j => nI (va_up pp d (pp d + 1) j)))), (m0, .inr (6, [.int f0, .int (nI nA), .ref b1, .ref b2, .ref b3, .ref b4, .ref b5, .ref b6, .ref b7, .int (nI kn), .ref b8, .int (nI ln), .ref b9, .ref b10, .ref b11, .ref b12, .ref b13, .ref b14, .int (nI d), .ref b15, .ref b16, .ref b17, .ref b18, .ref b19, .ref b20, .ref b21, .ref b22, .ref b23, .ref b24, .int (nI an), .int f2, .int f3, .int f4, .int f5])), (b15, .inl (kI, 256, .inl (upd (upd sk (32 * d + (ht d)) v) (32 * d + ((ht d) + 1)) 1))), (b16, .inl (kI, 8, .inl (fun j => nI (va_up (va_up ht d ((ht d) + 1)) d (((ht d) + 1) + 1) j))))] := hD
            exact hret  (()) _ _ _ (trivial) (hP.sub [2, 0, 4, 1, 3] rfl) (hD.sub [2, 0, 4, 1, 3] (by decide) rfl) hS dMod_end_130
        · have c43 : (d + 1) = 0 := (nI_eq (a := (d + 1)) (b := 0) (by omega) (by omega)).mp c43
          exfalso; omega
      · exact absurd c29 (by decide)
    · exact absurd c10 (by decide)
  · exact absurd c1 (by decide)

set_option maxHeartbeats 4000000 in
set_option maxRecDepth 100000 in
theorem kM_endBI (l : Launch) (dC : Nat → ClassId) (dI : Nat → Nat → Nat) (kI kJ kZ : ClassId) (m0 : Nat) (b1 : Nat) (b2 : Nat) (b3 : Nat) (b4 : Nat) (b5 : Nat) (b6 : Nat) (b7 : Nat) (b8 : Nat) (b9 : Nat) (b10 : Nat) (b11 : Nat) (b12 : Nat) (b13 : Nat) (b14 : Nat) (b15 : Nat) (b16 : Nat) (b17 : Nat) (b18 : Nat) (b19 : Nat) (b20 : Nat) (b21 : Nat) (b22 : Nat) (b23 : Nat) (b24 : Nat) (nA : Nat) (kn : Nat) (ln : Nat) (an : Nat) (f0 : Int32) (f2 : Int32) (f3 : Int32) (f4 : Int32) (f5 : Int32) (d : Nat) (v : Int32) (bal : Nat → Int32) (ka : Nat → Int32) (kN : Nat → Int32) (kv : Nat → Int32) (oB : Nat → Int32) (oA : Nat → Int32) (oN : Nat → Int32) (oV : Nat → Int32) (oK : Nat → Nat) (oL : Nat → Nat) (gg : Nat → Nat) (sk : Nat → Int32) (ht : Nat → Nat) (pp : Nat → Nat) (hd8 : d < 7) (hht : ht d ≤ 30) (hoK : oK (d + 1) ≤ 500) :
    XM stX l yMod_end wMod_end { frames := 1, cells := 0, slots := 0, locals := 21 } (dC, dI) xCl (x_T kI kJ kZ) [(m0, .inr (6, [.int f0, .int (nI nA), .ref b1, .ref b2, .ref b3, .ref b4, .ref b5, .ref b6, .ref b7, .int (nI kn), .ref b8, .int (nI ln), .ref b9, .ref b10, .ref b11, .ref b12, .ref b13, .ref b14, .int (nI (d + 1)), .ref b15, .ref b16, .ref b17, .ref b18, .ref b19, .ref b20, .ref b21, .ref b22, .ref b23, .ref b24, .int (nI an), .int f2, .int f3, .int f4, .int f5])), (b1, .inl (kI, 24, .inl bal)), (b5, .inl (kI, 500, .inl ka)), (b6, .inl (kI, 500, .inl kN)), (b7, .inl (kI, 500, .inl kv)), (b9, .inl (kI, 192, .inl oB)), (b10, .inl (kI, 4000, .inl oA)), (b11, .inl (kI, 4000, .inl oN)), (b12, .inl (kI, 4000, .inl oV)), (b13, .inl (kI, 8, .inl (fun j => nI (oK j)))), (b14, .inl (kI, 8, .inl (fun j => nI (oL j)))), (b22, .inl (kI, 8, .inl (fun j => nI (gg j)))), (b15, .inl (kI, 256, .inl sk)), (b16, .inl (kI, 8, .inl (fun j => nI (ht j)))), (b17, .inl (kI, 8, .inl (fun j => nI (pp j))))] [.ref m0, .int 1, .int v] 0 0 x_eV (fun (r : Unit) (u : (Nat → Int32) × (Nat → Int32) × (Nat → Int32) × (Nat → Int32)) => (mSeg u.1 bal 0 24 (fun i => oB (24 * (d + 1) + i))) ∧ (mSeg u.2.1 ka 0 (oK (d + 1)) (fun i => oA (500 * (d + 1) + i))) ∧ (mSeg u.2.2.1 kN 0 (oK (d + 1)) (fun i => oN (500 * (d + 1) + i))) ∧ (mSeg u.2.2.2 kv 0 (oK (d + 1)) (fun i => oV (500 * (d + 1) + i)))) (fun (u : (Nat → Int32) × (Nat → Int32) × (Nat → Int32) × (Nat → Int32)) => [(m0, .inr (6, [.int f0, .int (nI nA), .ref b1, .ref b2, .ref b3, .ref b4, .ref b5, .ref b6, .ref b7, .int (nI (oK (d + 1))), .ref b8, .int (nI (oL (d + 1))), .ref b9, .ref b10, .ref b11, .ref b12, .ref b13, .ref b14, .int (nI d), .ref b15, .ref b16, .ref b17, .ref b18, .ref b19, .ref b20, .ref b21, .ref b22, .ref b23, .ref b24, .int (nI an), .int f2, .int f3, .int f4, .int f5])), (b1, .inl (kI, 24, .inl u.1)), (b5, .inl (kI, 500, .inl u.2.1)), (b6, .inl (kI, 500, .inl u.2.2.1)), (b7, .inl (kI, 500, .inl u.2.2.2)), (b9, .inl (kI, 192, .inl oB)), (b10, .inl (kI, 4000, .inl oA)), (b11, .inl (kI, 4000, .inl oN)), (b12, .inl (kI, 4000, .inl oV)), (b13, .inl (kI, 8, .inl (fun j => nI (oK j)))), (b14, .inl (kI, 8, .inl (fun j => nI (oL j)))), (b22, .inl (kI, 8, .inl (fun j => nI (va_up gg d (gg d + gg (d + 1)) j)))), (b16, .inl (kI, 8, .inl (fun j => nI (va_up (va_up ht d (ht d + 1)) d (ht d + 1 + 1) j)))), (b17, .inl (kI, 8, .inl (fun j => nI (va_up pp d (pp d + 1) j)))), (b15, .inl (kI, 256, .inl (upd (upd sk (32 * d + ht d) v) (32 * d + (ht d + 1)) 0)))]) := by
  refine XM.ofV (cc := cMod_end) (maxL := 5) (by decide) rfl (Nat.le_of_ble_eq_true rfl) ?_
  intro p e s m below meth c A Q hx hb hr hml hown hts hlocks hin hA hK hP hD hX hS ls hl hret
  have hl : lv_has ls 5 [(0, .ref m0), (1, .int 1), (2, .int v)] := hl
  refine lv_iload_n hx hb dMod_end_0 rfl (lv_at hl 1 rfl) ?_
  refine lv_if_le (tgt := 8) hx hb dMod_end_1 (by decide) (fun c1 => ?_) (fun c1 => ?_)
  · exact absurd c1 (by decide)
  · refine lv_aload_n hx hb dMod_end_4 rfl (lv_at hl 0 rfl) ?_
    refine XM.callVv (As := []) (rest := []) (wr := [(b22, .inl (kI, 8, .inl (fun j => nI (gg j)))), (b15, .inl (kI, 256, .inl sk)), (b16, .inl (kI, 8, .inl (fun j => nI (ht j)))), (b17, .inl (kI, 8, .inl (fun j => nI (pp j))))]) stX_ok ⟨hx, hb, hml, hown, hts⟩ (kM_undo l dC dI kI kJ kZ m0 b1 b2 b3 b4 b5 b6 b7 b8 b9 b10 b11 b12 b13 b14 b15 b16 b17 b18 b19 b20 b21 b22 b23 b24 nA kn ln an f0 f2 f3 f4 f5 (d + 1) bal ka kN kv oB oA oN oV oK oL (by first | assumption | omega) (by first | assumption | omega)) (cwV 0 hts (x_gV gw832 gw834 gw25 gw43 gw835) rfl rfl rfl (by decide +kernel) ⟨Nat.le_of_ble_eq_true rfl, Nat.le_of_ble_eq_true rfl⟩) hK hP hD hS hA hX [0, 1, 2, 3, 4, 5, 6, 7, 8, 9, 10] [11, 12, 13, 14] rfl rfl (by decide) (by decide) (by decide) rfl rfl rfl rfl hl.1 (Nat.le_of_ble_eq_true rfl) dMod_end_5 ⟨Nat.le_of_ble_eq_true rfl, Nat.le_of_ble_eq_true rfl⟩ (fun u_1 H locs hw hP hD hS => ?_)
    obtain ⟨bal2_3, ka2_4, kN2_5, kv2_6⟩ := u_1
    try dsimp only at hw
    obtain ⟨hwmSeg_bal2, hwmSeg_ka2, hwmSeg_kN2, hwmSeg_kv2⟩ := hw
    have hP : va_P (dC, dI) xCl [(b22, .inl (kI, 8, .inl (fun j => nI (gg j)))), (b15, .inl (kI, 256, .inl sk)), (b16, .inl (kI, 8, .inl (fun j => nI (ht j)))), (b17, .inl (kI, 8, .inl (fun j => nI (pp j)))), (m0, .inr (6, [.int f0, .int (nI nA), .ref b1, .ref b2, .ref b3, .ref b4, .ref b5, .ref b6, .ref b7, .int (nI (oK (d + 1))), .ref b8, .int (nI (oL (d + 1))), .ref b9, .ref b10, .ref b11, .ref b12, .ref b13, .ref b14, .int (nI (d + 1)), .ref b15, .ref b16, .ref b17, .ref b18, .ref b19, .ref b20, .ref b21, .ref b22, .ref b23, .ref b24, .int (nI an), .int f2, .int f3, .int f4, .int f5])), (b1, .inl (kI, 24, .inl bal2_3)), (b5, .inl (kI, 500, .inl ka2_4)), (b6, .inl (kI, 500, .inl kN2_5)), (b7, .inl (kI, 500, .inl kv2_6)), (b9, .inl (kI, 192, .inl oB)), (b10, .inl (kI, 4000, .inl oA)), (b11, .inl (kI, 4000, .inl oN)), (b12, .inl (kI, 4000, .inl oV)), (b13, .inl (kI, 8, .inl (fun j => nI (oK j)))), (b14, .inl (kI, 8, .inl (fun j => nI (oL j))))] H := hP
    have hD : va_D A [(b22, .inl (kI, 8, .inl (fun j => nI (gg j)))), (b15, .inl (kI, 256, .inl sk)), (b16, .inl (kI, 8, .inl (fun j => nI (ht j)))), (b17, .inl (kI, 8, .inl (fun j => nI (pp j)))), (m0, .inr (6, [.int f0, .int (nI nA), .ref b1, .ref b2, .ref b3, .ref b4, .ref b5, .ref b6, .ref b7, .int (nI (oK (d + 1))), .ref b8, .int (nI (oL (d + 1))), .ref b9, .ref b10, .ref b11, .ref b12, .ref b13, .ref b14, .int (nI (d + 1)), .ref b15, .ref b16, .ref b17, .ref b18, .ref b19, .ref b20, .ref b21, .ref b22, .ref b23, .ref b24, .int (nI an), .int f2, .int f3, .int f4, .int f5])), (b1, .inl (kI, 24, .inl bal2_3)), (b5, .inl (kI, 500, .inl ka2_4)), (b6, .inl (kI, 500, .inl kN2_5)), (b7, .inl (kI, 500, .inl kv2_6)), (b9, .inl (kI, 192, .inl oB)), (b10, .inl (kI, 4000, .inl oA)), (b11, .inl (kI, 4000, .inl oN)), (b12, .inl (kI, 4000, .inl oV)), (b13, .inl (kI, 8, .inl (fun j => nI (oK j)))), (b14, .inl (kI, 8, .inl (fun j => nI (oL j))))] := hD
    refine lv_iload_n hx hb dMod_end_8 rfl (lv_at hl 1 rfl) ?_
    refine lv_iconst (v := 1) hx hb dMod_end_9 (by decide) ?_
    refine lv_icmp_le (tgt := 17) hx hb dMod_end_10 (by decide) (fun c10 => ?_) (fun c10 => ?_)
    · refine lv_aload_n hx hb dMod_end_17 rfl (lv_at hl 0 rfl) ?_
      refine va_get (D := (dC, dI)) (ci := 6) (v := .ref b22) (C := RMod) (T := TMod) (N := 34) hx hb hts (fun w h => List.mem_cons_of_mem _ (layMod w h)) hown hK hP 4 rfl rfl 26 (by decide) (hts (.fieldLink RMod 74 "CallLedgerModel" "gases" "[I") (List.mem_cons_of_mem _ gw670)) (fun _ h9 => h9) rfl dMod_end_18 ?_
      refine lv_aload_n hx hb dMod_end_21 rfl (lv_at hl 0 rfl) ?_
      refine va_get (D := (dC, dI)) (ci := 6) (v := .int (nI (d + 1))) (C := RMod) (T := TMod) (N := 34) hx hb hts (fun w h => List.mem_cons_of_mem _ (layMod w h)) hown hK hP 4 rfl rfl 18 (by decide) (hts (.fieldLink RMod 126 "CallLedgerModel" "depth" "I") (List.mem_cons_of_mem _ gw662)) (fun _ h9 => h9) rfl dMod_end_22 ?_
      refine x_iald (j := d + 1) hx hb hK hP 0 0 rfl rfl rfl (by omega) (by omega) dMod_end_25 ?_
      refine lv_istore_n (lv' := [(3, .int (nI (gg (d + 1)))), (0, .ref m0), (1, .int 1), (2, .int v)]) hx hb dMod_end_26 rfl hl (by decide) rfl (fun ls hl => ?_)
      refine lv_iload_n hx hb dMod_end_27 rfl (lv_at hl 2 rfl) ?_
      refine lv_iconst (v := 1) hx hb dMod_end_28 (by decide) ?_
      refine lv_icmp_le (tgt := 36) hx hb dMod_end_29 (by decide) (fun c29 => ?_) (fun c29 => ?_)
      · refine lv_iload_n hx hb dMod_end_36 rfl (lv_at hl 3 rfl) ?_
        refine lv_istore (lv' := [(4, .int v), (3, .int (nI (gg (d + 1)))), (0, .ref m0), (1, .int 1), (2, .int v)]) hx hb dMod_end_37 hl (by decide) rfl (fun ls hl => ?_)
        refine lv_aload_n hx hb dMod_end_39 rfl (lv_at hl 2 rfl) ?_
        refine va_get (D := (dC, dI)) (ci := 6) (v := .int (nI (d + 1))) (C := RMod) (T := TMod) (N := 34) hx hb hts (fun w h => List.mem_cons_of_mem _ (layMod w h)) hown hK hP 4 rfl rfl 18 (by decide) (hts (.fieldLink RMod 126 "CallLedgerModel" "depth" "I") (List.mem_cons_of_mem _ gw662)) (fun _ h9 => h9) rfl dMod_end_40 ?_
        refine lv_if_ne (tgt := 68) hx hb dMod_end_43 (by decide) (fun c43 => ?_) (fun c43 => ?_)
        · have c43 : ¬ ((d + 1) = 0) := fun z9 => c43 ((nI_eq (a := (d + 1)) (b := 0) (by omega) (by omega)).mpr z9)
          refine lv_aload_n hx hb dMod_end_68 rfl (lv_at hl 2 rfl) ?_
          refine lv_dup hx hb dMod_end_69 rfl ?_
          refine va_get (D := (dC, dI)) (ci := 6) (v := .int (nI (d + 1))) (C := RMod) (T := TMod) (N := 34) hx hb hts (fun w h => List.mem_cons_of_mem _ (layMod w h)) hown hK hP 4 rfl rfl 18 (by decide) (hts (.fieldLink RMod 126 "CallLedgerModel" "depth" "I") (List.mem_cons_of_mem _ gw662)) (fun _ h9 => h9) rfl dMod_end_70 ?_
          refine lv_iconst (v := 1) hx hb dMod_end_73 (by decide) ?_
          refine lv_isub hx hb dMod_end_74 ?_
          refine x_topi (y := nI d) ((x_pred (by omega)).trans (by rw [Nat.add_sub_cancel])) ?_
          refine va_put (D := (dC, dI)) (ci := 6) (v := .int (nI d)) (ty := .int) (C := RMod) (T := TMod) (N := 34) hx hb hts (fun w h => List.mem_cons_of_mem _ (layMod w h)) tyMod tykMod nmMod hown hK hP hD hS 4 rfl rfl 18 (by decide) (hts (.fieldLink RMod 126 "CallLedgerModel" "depth" "I") (List.mem_cons_of_mem _ gw662)) (fun _ h9 => h9) rfl (by decide +kernel) rfl rfl (Nat.le_of_ble_eq_true rfl) dMod_end_75 (fun H locs hP hD hS => ?_)
          have hP : va_P (dC, dI) xCl [(b22, .inl (kI, 8, .inl (fun j => nI (gg j)))), (b15, .inl (kI, 256, .inl sk)), (b16, .inl (kI, 8, .inl (fun j => nI (ht j)))), (b17, .inl (kI, 8, .inl (fun j => nI (pp j)))), (m0, .inr (6, [.int f0, .int (nI nA), .ref b1, .ref b2, .ref b3, .ref b4, .ref b5, .ref b6, .ref b7, .int (nI (oK (d + 1))), .ref b8, .int (nI (oL (d + 1))), .ref b9, .ref b10, .ref b11, .ref b12, .ref b13, .ref b14, .int (nI d), .ref b15, .ref b16, .ref b17, .ref b18, .ref b19, .ref b20, .ref b21, .ref b22, .ref b23, .ref b24, .int (nI an), .int f2, .int f3, .int f4, .int f5])), (b1, .inl (kI, 24, .inl bal2_3)), (b5, .inl (kI, 500, .inl ka2_4)), (b6, .inl (kI, 500, .inl kN2_5)), (b7, .inl (kI, 500, .inl kv2_6)), (b9, .inl (kI, 192, .inl oB)), (b10, .inl (kI, 4000, .inl oA)), (b11, .inl (kI, 4000, .inl oN)), (b12, .inl (kI, 4000, .inl oV)), (b13, .inl (kI, 8, .inl (fun j => nI (oK j)))), (b14, .inl (kI, 8, .inl (fun j => nI (oL j))))] H := hP
          have hD : va_D A [(b22, .inl (kI, 8, .inl (fun j => nI (gg j)))), (b15, .inl (kI, 256, .inl sk)), (b16, .inl (kI, 8, .inl (fun j => nI (ht j)))), (b17, .inl (kI, 8, .inl (fun j => nI (pp j)))), (m0, .inr (6, [.int f0, .int (nI nA), .ref b1, .ref b2, .ref b3, .ref b4, .ref b5, .ref b6, .ref b7, .int (nI (oK (d + 1))), .ref b8, .int (nI (oL (d + 1))), .ref b9, .ref b10, .ref b11, .ref b12, .ref b13, .ref b14, .int (nI d), .ref b15, .ref b16, .ref b17, .ref b18, .ref b19, .ref b20, .ref b21, .ref b22, .ref b23, .ref b24, .int (nI an), .int f2, .int f3, .int f4, .int f5])), (b1, .inl (kI, 24, .inl bal2_3)), (b5, .inl (kI, 500, .inl ka2_4)), (b6, .inl (kI, 500, .inl kN2_5)), (b7, .inl (kI, 500, .inl kv2_6)), (b9, .inl (kI, 192, .inl oB)), (b10, .inl (kI, 4000, .inl oA)), (b11, .inl (kI, 4000, .inl oN)), (b12, .inl (kI, 4000, .inl oV)), (b13, .inl (kI, 8, .inl (fun j => nI (oK j)))), (b14, .inl (kI, 8, .inl (fun j => nI (oL j))))] := hD
          refine lv_aload_n hx hb dMod_end_78 rfl (lv_at hl 2 rfl) ?_
          refine va_get (D := (dC, dI)) (ci := 6) (v := .ref b22) (C := RMod) (T := TMod) (N := 34) hx hb hts (fun w h => List.mem_cons_of_mem _ (layMod w h)) hown hK hP 4 rfl rfl 26 (by decide) (hts (.fieldLink RMod 74 "CallLedgerModel" "gases" "[I") (List.mem_cons_of_mem _ gw670)) (fun _ h9 => h9) rfl dMod_end_79 ?_
          refine lv_aload_n hx hb dMod_end_82 rfl (lv_at hl 2 rfl) ?_
          refine va_get (D := (dC, dI)) (ci := 6) (v := .int (nI d)) (C := RMod) (T := TMod) (N := 34) hx hb hts (fun w h => List.mem_cons_of_mem _ (layMod w h)) hown hK hP 4 rfl rfl 18 (by decide) (hts (.fieldLink RMod 126 "CallLedgerModel" "depth" "I") (List.mem_cons_of_mem _ gw662)) (fun _ h9 => h9) rfl dMod_end_83 ?_
          refine lv_aload_n hx hb dMod_end_86 rfl (lv_at hl 2 rfl) ?_
          refine va_get (D := (dC, dI)) (ci := 6) (v := .ref b22) (C := RMod) (T := TMod) (N := 34) hx hb hts (fun w h => List.mem_cons_of_mem _ (layMod w h)) hown hK hP 4 rfl rfl 26 (by decide) (hts (.fieldLink RMod 74 "CallLedgerModel" "gases" "[I") (List.mem_cons_of_mem _ gw670)) (fun _ h9 => h9) rfl dMod_end_87 ?_
          refine lv_aload_n hx hb dMod_end_90 rfl (lv_at hl 2 rfl) ?_
          refine va_get (D := (dC, dI)) (ci := 6) (v := .int (nI d)) (C := RMod) (T := TMod) (N := 34) hx hb hts (fun w h => List.mem_cons_of_mem _ (layMod w h)) hown hK hP 4 rfl rfl 18 (by decide) (hts (.fieldLink RMod 126 "CallLedgerModel" "depth" "I") (List.mem_cons_of_mem _ gw662)) (fun _ h9 => h9) rfl dMod_end_91 ?_
          refine x_iald (j := d) hx hb hK hP 0 0 rfl rfl rfl (by omega) (by omega) dMod_end_94 ?_
          refine lv_iload_n hx hb dMod_end_95 rfl (lv_at hl 1 rfl) ?_
          refine lv_iadd hx hb dMod_end_96 ?_
          refine x_topi (y := nI (gg d + (gg (d + 1)))) (nI_add _ _) ?_
          refine x_iast (j := d) hx hb hK hP hD hS 0 0 rfl rfl rfl (by omega) (by omega) dMod_end_97 (fun H locs hP hD hS => ?_)
          have hP : va_P (dC, dI) xCl [(b22, .inl (kI, 8, .inl (upd (fun j => nI (gg j)) d (nI (gg d + (gg (d + 1))))))), (b15, .inl (kI, 256, .inl sk)), (b16, .inl (kI, 8, .inl (fun j => nI (ht j)))), (b17, .inl (kI, 8, .inl (fun j => nI (pp j)))), (m0, .inr (6, [.int f0, .int (nI nA), .ref b1, .ref b2, .ref b3, .ref b4, .ref b5, .ref b6, .ref b7, .int (nI (oK (d + 1))), .ref b8, .int (nI (oL (d + 1))), .ref b9, .ref b10, .ref b11, .ref b12, .ref b13, .ref b14, .int (nI d), .ref b15, .ref b16, .ref b17, .ref b18, .ref b19, .ref b20, .ref b21, .ref b22, .ref b23, .ref b24, .int (nI an), .int f2, .int f3, .int f4, .int f5])), (b1, .inl (kI, 24, .inl bal2_3)), (b5, .inl (kI, 500, .inl ka2_4)), (b6, .inl (kI, 500, .inl kN2_5)), (b7, .inl (kI, 500, .inl kv2_6)), (b9, .inl (kI, 192, .inl oB)), (b10, .inl (kI, 4000, .inl oA)), (b11, .inl (kI, 4000, .inl oN)), (b12, .inl (kI, 4000, .inl oV)), (b13, .inl (kI, 8, .inl (fun j => nI (oK j)))), (b14, .inl (kI, 8, .inl (fun j => nI (oL j))))] H := hP
          have hD : va_D A [(b22, .inl (kI, 8, .inl (upd (fun j => nI (gg j)) d (nI (gg d + (gg (d + 1))))))), (b15, .inl (kI, 256, .inl sk)), (b16, .inl (kI, 8, .inl (fun j => nI (ht j)))), (b17, .inl (kI, 8, .inl (fun j => nI (pp j)))), (m0, .inr (6, [.int f0, .int (nI nA), .ref b1, .ref b2, .ref b3, .ref b4, .ref b5, .ref b6, .ref b7, .int (nI (oK (d + 1))), .ref b8, .int (nI (oL (d + 1))), .ref b9, .ref b10, .ref b11, .ref b12, .ref b13, .ref b14, .int (nI d), .ref b15, .ref b16, .ref b17, .ref b18, .ref b19, .ref b20, .ref b21, .ref b22, .ref b23, .ref b24, .int (nI an), .int f2, .int f3, .int f4, .int f5])), (b1, .inl (kI, 24, .inl bal2_3)), (b5, .inl (kI, 500, .inl ka2_4)), (b6, .inl (kI, 500, .inl kN2_5)), (b7, .inl (kI, 500, .inl kv2_6)), (b9, .inl (kI, 192, .inl oB)), (b10, .inl (kI, 4000, .inl oA)), (b11, .inl (kI, 4000, .inl oN)), (b12, .inl (kI, 4000, .inl oV)), (b13, .inl (kI, 8, .inl (fun j => nI (oK j)))), (b14, .inl (kI, 8, .inl (fun j => nI (oL j))))] := hD
          rw [(show upd (fun j => nI (gg j)) d (nI (gg d + (gg (d + 1)))) = fun j => nI (va_up gg d (gg d + (gg (d + 1))) j) from x_updL gg d (gg d + (gg (d + 1))))] at hP hD
          have hP : va_P (dC, dI) xCl [(b22, .inl (kI, 8, .inl (fun j => nI (va_up gg d (gg d + (gg (d + 1))) j)))), (b15, .inl (kI, 256, .inl sk)), (b16, .inl (kI, 8, .inl (fun j => nI (ht j)))), (b17, .inl (kI, 8, .inl (fun j => nI (pp j)))), (m0, .inr (6, [.int f0, .int (nI nA), .ref b1, .ref b2, .ref b3, .ref b4, .ref b5, .ref b6, .ref b7, .int (nI (oK (d + 1))), .ref b8, .int (nI (oL (d + 1))), .ref b9, .ref b10, .ref b11, .ref b12, .ref b13, .ref b14, .int (nI d), .ref b15, .ref b16, .ref b17, .ref b18, .ref b19, .ref b20, .ref b21, .ref b22, .ref b23, .ref b24, .int (nI an), .int f2, .int f3, .int f4, .int f5])), (b1, .inl (kI, 24, .inl bal2_3)), (b5, .inl (kI, 500, .inl ka2_4)), (b6, .inl (kI, 500, .inl kN2_5)), (b7, .inl (kI, 500, .inl kv2_6)), (b9, .inl (kI, 192, .inl oB)), (b10, .inl (kI, 4000, .inl oA)), (b11, .inl (kI, 4000, .inl oN)), (b12, .inl (kI, 4000, .inl oV)), (b13, .inl (kI, 8, .inl (fun j => nI (oK j)))), (b14, .inl (kI, 8, .inl (fun j => nI (oL j))))] H := hP
          have hD : va_D A [(b22, .inl (kI, 8, .inl (fun j => nI (va_up gg d (gg d + (gg (d + 1))) j)))), (b15, .inl (kI, 256, .inl sk)), (b16, .inl (kI, 8, .inl (fun j => nI (ht j)))), (b17, .inl (kI, 8, .inl (fun j => nI (pp j)))), (m0, .inr (6, [.int f0, .int (nI nA), .ref b1, .ref b2, .ref b3, .ref b4, .ref b5, .ref b6, .ref b7, .int (nI (oK (d + 1))), .ref b8, .int (nI (oL (d + 1))), .ref b9, .ref b10, .ref b11, .ref b12, .ref b13, .ref b14, .int (nI d), .ref b15, .ref b16, .ref b17, .ref b18, .ref b19, .ref b20, .ref b21, .ref b22, .ref b23, .ref b24, .int (nI an), .int f2, .int f3, .int f4, .int f5])), (b1, .inl (kI, 24, .inl bal2_3)), (b5, .inl (kI, 500, .inl ka2_4)), (b6, .inl (kI, 500, .inl kN2_5)), (b7, .inl (kI, 500, .inl kv2_6)), (b9, .inl (kI, 192, .inl oB)), (b10, .inl (kI, 4000, .inl oA)), (b11, .inl (kI, 4000, .inl oN)), (b12, .inl (kI, 4000, .inl oV)), (b13, .inl (kI, 8, .inl (fun j => nI (oK j)))), (b14, .inl (kI, 8, .inl (fun j => nI (oL j))))] := hD
          refine lv_aload_n hx hb dMod_end_98 rfl (lv_at hl 2 rfl) ?_
          refine lv_iload hx hb dMod_end_99 (lv_at hl 0 rfl) ?_
          refine XM.callVv (As := [.int v]) (rest := []) (wr := [(b22, .inl (kI, 8, .inl (fun j => nI (va_up gg d (gg d + (gg (d + 1))) j)))), (b17, .inl (kI, 8, .inl (fun j => nI (pp j)))), (b1, .inl (kI, 24, .inl bal2_3)), (b5, .inl (kI, 500, .inl ka2_4)), (b6, .inl (kI, 500, .inl kN2_5)), (b7, .inl (kI, 500, .inl kv2_6)), (b9, .inl (kI, 192, .inl oB)), (b10, .inl (kI, 4000, .inl oA)), (b11, .inl (kI, 4000, .inl oN)), (b12, .inl (kI, 4000, .inl oV)), (b13, .inl (kI, 8, .inl (fun j => nI (oK j)))), (b14, .inl (kI, 8, .inl (fun j => nI (oL j))))]) stX_ok ⟨hx, hb, hml, hown, hts⟩ (kM_push l dC dI kI kJ kZ m0 b1 b2 b3 b4 b5 b6 b7 b8 b9 b10 b11 b12 b13 b14 b15 b16 b17 b18 b19 b20 b21 b22 b23 b24 nA (oK (d + 1)) (oL (d + 1)) an f0 f2 f3 f4 f5 d sk ht (ht d) v (by first | assumption | omega) (by first | assumption | rfl | exact va_up_at) (by first | assumption | omega)) (cwV 1 hts (x_gV gw836 gw838 gw26 gw43 gw839) rfl rfl rfl (by decide +kernel) ⟨Nat.le_of_ble_eq_true rfl, Nat.le_of_ble_eq_true rfl⟩) hK hP hD hS hA hX [4, 1, 2] [0, 3, 5, 6, 7, 8, 9, 10, 11, 12, 13, 14] rfl rfl (by decide) (by decide) (by decide) rfl rfl rfl rfl hl.1 (Nat.le_of_ble_eq_true rfl) dMod_end_101 ⟨Nat.le_of_ble_eq_true rfl, Nat.le_of_ble_eq_true rfl⟩ (fun u_7 H locs hw hP hD hS => ?_)
          have hP : va_P (dC, dI) xCl [(b22, .inl (kI, 8, .inl (fun j => nI (va_up gg d (gg d + (gg (d + 1))) j)))), (b17, .inl (kI, 8, .inl (fun j => nI (pp j)))), (b1, .inl (kI, 24, .inl bal2_3)), (b5, .inl (kI, 500, .inl ka2_4)), (b6, .inl (kI, 500, .inl kN2_5)), (b7, .inl (kI, 500, .inl kv2_6)), (b9, .inl (kI, 192, .inl oB)), (b10, .inl (kI, 4000, .inl oA)), (b11, .inl (kI, 4000, .inl oN)), (b12, .inl (kI, 4000, .inl oV)), (b13, .inl (kI, 8, .inl (fun j => nI (oK j)))), (b14, .inl (kI, 8, .inl (fun j => nI (oL j)))), (m0, .inr (6, [.int f0, .int (nI nA), .ref b1, .ref b2, .ref b3, .ref b4, .ref b5, .ref b6, .ref b7, .int (nI (oK (d + 1))), .ref b8, .int (nI (oL (d + 1))), .ref b9, .ref b10, .ref b11, .ref b12, .ref b13, .ref b14, .int (nI d), .ref b15, .ref b16, .ref b17, .ref b18, .ref b19, .ref b20, .ref b21, .ref b22, .ref b23, .ref b24, .int (nI an), .int f2, .int f3, .int f4, .int f5])), (b15, .inl (kI, 256, .inl (upd sk (32 * d + (ht d)) v))), (b16, .inl (kI, 8, .inl (fun j => nI (va_up ht d ((ht d) + 1) j))))] H := hP
          have hD : va_D A [(b22, .inl (kI, 8, .inl (fun j => nI (va_up gg d (gg d + (gg (d + 1))) j)))), (b17, .inl (kI, 8, .inl (fun j => nI (pp j)))), (b1, .inl (kI, 24, .inl bal2_3)), (b5, .inl (kI, 500, .inl ka2_4)), (b6, .inl (kI, 500, .inl kN2_5)), (b7, .inl (kI, 500, .inl kv2_6)), (b9, .inl (kI, 192, .inl oB)), (b10, .inl (kI, 4000, .inl oA)), (b11, .inl (kI, 4000, .inl oN)), (b12, .inl (kI, 4000, .inl oV)), (b13, .inl (kI, 8, .inl (fun j => nI (oK j)))), (b14, .inl (kI, 8, .inl (fun j => nI (oL j)))), (m0, .inr (6, [.int f0, .int (nI nA), .ref b1, .ref b2, .ref b3, .ref b4, .ref b5, .ref b6, .ref b7, .int (nI (oK (d + 1))), .ref b8, .int (nI (oL (d + 1))), .ref b9, .ref b10, .ref b11, .ref b12, .ref b13, .ref b14, .int (nI d), .ref b15, .ref b16, .ref b17, .ref b18, .ref b19, .ref b20, .ref b21, .ref b22, .ref b23, .ref b24, .int (nI an), .int f2, .int f3, .int f4, .int f5])), (b15, .inl (kI, 256, .inl (upd sk (32 * d + (ht d)) v))), (b16, .inl (kI, 8, .inl (fun j => nI (va_up ht d ((ht d) + 1) j))))] := hD
          refine lv_aload_n hx hb dMod_end_104 rfl (lv_at hl 2 rfl) ?_
          refine lv_iload_n hx hb dMod_end_105 rfl (lv_at hl 3 rfl) ?_
          refine lv_if_ne (tgt := 113) hx hb dMod_end_106 (by decide) (fun c106 => ?_) (fun c106 => ?_)
          · refine lv_iconst (v := 0) hx hb dMod_end_113 (by decide) ?_
            refine XM.callVv (As := [.int 0]) (rest := []) (wr := [(b22, .inl (kI, 8, .inl (fun j => nI (va_up gg d (gg d + (gg (d + 1))) j)))), (b17, .inl (kI, 8, .inl (fun j => nI (pp j)))), (b1, .inl (kI, 24, .inl bal2_3)), (b5, .inl (kI, 500, .inl ka2_4)), (b6, .inl (kI, 500, .inl kN2_5)), (b7, .inl (kI, 500, .inl kv2_6)), (b9, .inl (kI, 192, .inl oB)), (b10, .inl (kI, 4000, .inl oA)), (b11, .inl (kI, 4000, .inl oN)), (b12, .inl (kI, 4000, .inl oV)), (b13, .inl (kI, 8, .inl (fun j => nI (oK j)))), (b14, .inl (kI, 8, .inl (fun j => nI (oL j))))]) stX_ok ⟨hx, hb, hml, hown, hts⟩ (kM_push l dC dI kI kJ kZ m0 b1 b2 b3 b4 b5 b6 b7 b8 b9 b10 b11 b12 b13 b14 b15 b16 b17 b18 b19 b20 b21 b22 b23 b24 nA (oK (d + 1)) (oL (d + 1)) an f0 f2 f3 f4 f5 d (upd sk (32 * d + (ht d)) v) (va_up ht d ((ht d) + 1)) ((ht d) + 1) 0 (by first | assumption | omega) (by first | assumption | rfl | exact va_up_at) (by first | assumption | omega)) (cwV 1 hts (x_gV gw836 gw838 gw26 gw43 gw839) rfl rfl rfl (by decide +kernel) ⟨Nat.le_of_ble_eq_true rfl, Nat.le_of_ble_eq_true rfl⟩) hK hP hD hS hA hX [12, 13, 14] [0, 1, 2, 3, 4, 5, 6, 7, 8, 9, 10, 11] rfl rfl (by decide) (by decide) (by decide) rfl rfl rfl rfl hl.1 (Nat.le_of_ble_eq_true rfl) dMod_end_114 ⟨Nat.le_of_ble_eq_true rfl, Nat.le_of_ble_eq_true rfl⟩ (fun u_9 H locs hw hP hD hS => ?_)
            have hP : va_P (dC, dI) xCl [(b22, .inl (kI, 8, .inl (fun j => nI (va_up gg d (gg d + (gg (d + 1))) j)))), (b17, .inl (kI, 8, .inl (fun j => nI (pp j)))), (b1, .inl (kI, 24, .inl bal2_3)), (b5, .inl (kI, 500, .inl ka2_4)), (b6, .inl (kI, 500, .inl kN2_5)), (b7, .inl (kI, 500, .inl kv2_6)), (b9, .inl (kI, 192, .inl oB)), (b10, .inl (kI, 4000, .inl oA)), (b11, .inl (kI, 4000, .inl oN)), (b12, .inl (kI, 4000, .inl oV)), (b13, .inl (kI, 8, .inl (fun j => nI (oK j)))), (b14, .inl (kI, 8, .inl (fun j => nI (oL j)))), (m0, .inr (6, [.int f0, .int (nI nA), .ref b1, .ref b2, .ref b3, .ref b4, .ref b5, .ref b6, .ref b7, .int (nI (oK (d + 1))), .ref b8, .int (nI (oL (d + 1))), .ref b9, .ref b10, .ref b11, .ref b12, .ref b13, .ref b14, .int (nI d), .ref b15, .ref b16, .ref b17, .ref b18, .ref b19, .ref b20, .ref b21, .ref b22, .ref b23, .ref b24, .int (nI an), .int f2, .int f3, .int f4, .int f5])), (b15, .inl (kI, 256, .inl (upd (upd sk (32 * d + (ht d)) v) (32 * d + ((ht d) + 1)) 0))), (b16, .inl (kI, 8, .inl (fun j => nI (va_up (va_up ht d ((ht d) + 1)) d (((ht d) + 1) + 1) j))))] H := hP
            have hD : va_D A [(b22, .inl (kI, 8, .inl (fun j => nI (va_up gg d (gg d + (gg (d + 1))) j)))), (b17, .inl (kI, 8, .inl (fun j => nI (pp j)))), (b1, .inl (kI, 24, .inl bal2_3)), (b5, .inl (kI, 500, .inl ka2_4)), (b6, .inl (kI, 500, .inl kN2_5)), (b7, .inl (kI, 500, .inl kv2_6)), (b9, .inl (kI, 192, .inl oB)), (b10, .inl (kI, 4000, .inl oA)), (b11, .inl (kI, 4000, .inl oN)), (b12, .inl (kI, 4000, .inl oV)), (b13, .inl (kI, 8, .inl (fun j => nI (oK j)))), (b14, .inl (kI, 8, .inl (fun j => nI (oL j)))), (m0, .inr (6, [.int f0, .int (nI nA), .ref b1, .ref b2, .ref b3, .ref b4, .ref b5, .ref b6, .ref b7, .int (nI (oK (d + 1))), .ref b8, .int (nI (oL (d + 1))), .ref b9, .ref b10, .ref b11, .ref b12, .ref b13, .ref b14, .int (nI d), .ref b15, .ref b16, .ref b17, .ref b18, .ref b19, .ref b20, .ref b21, .ref b22, .ref b23, .ref b24, .int (nI an), .int f2, .int f3, .int f4, .int f5])), (b15, .inl (kI, 256, .inl (upd (upd sk (32 * d + (ht d)) v) (32 * d + ((ht d) + 1)) 0))), (b16, .inl (kI, 8, .inl (fun j => nI (va_up (va_up ht d ((ht d) + 1)) d (((ht d) + 1) + 1) j))))] := hD
            refine lv_aload_n hx hb dMod_end_117 rfl (lv_at hl 2 rfl) ?_
            refine va_get (D := (dC, dI)) (ci := 6) (v := .ref b17) (C := RMod) (T := TMod) (N := 34) hx hb hts (fun w h => List.mem_cons_of_mem _ (layMod w h)) hown hK hP 12 rfl rfl 21 (by decide) (hts (.fieldLink RMod 59 "CallLedgerModel" "places" "[I") (List.mem_cons_of_mem _ gw665)) (fun _ h9 => h9) rfl dMod_end_118 ?_
            refine lv_aload_n hx hb dMod_end_121 rfl (lv_at hl 2 rfl) ?_
            refine va_get (D := (dC, dI)) (ci := 6) (v := .int (nI d)) (C := RMod) (T := TMod) (N := 34) hx hb hts (fun w h => List.mem_cons_of_mem _ (layMod w h)) hown hK hP 12 rfl rfl 18 (by decide) (hts (.fieldLink RMod 126 "CallLedgerModel" "depth" "I") (List.mem_cons_of_mem _ gw662)) (fun _ h9 => h9) rfl dMod_end_122 ?_
            refine lv_dup2_11 hx hb dMod_end_125 rfl rfl ?_
            refine x_iald (j := d) hx hb hK hP 1 0 rfl rfl rfl (by omega) (by omega) dMod_end_126 ?_
            refine lv_iconst (v := 1) hx hb dMod_end_127 (by decide) ?_
            refine lv_iadd hx hb dMod_end_128 ?_
            refine x_topi (y := nI (pp d + 1)) (nI_1 _) ?_
            refine x_iast (j := d) hx hb hK hP hD hS 1 0 rfl rfl rfl (by omega) (by omega) dMod_end_129 (fun H locs hP hD hS => ?_)
            have hP : va_P (dC, dI) xCl [(b22, .inl (kI, 8, .inl (fun j => nI (va_up gg d (gg d + (gg (d + 1))) j)))), (b17, .inl (kI, 8, .inl (upd (fun j => nI (pp j)) d (nI (pp d + 1))))), (b1, .inl (kI, 24, .inl bal2_3)), (b5, .inl (kI, 500, .inl ka2_4)), (b6, .inl (kI, 500, .inl kN2_5)), (b7, .inl (kI, 500, .inl kv2_6)), (b9, .inl (kI, 192, .inl oB)), (b10, .inl (kI, 4000, .inl oA)), (b11, .inl (kI, 4000, .inl oN)), (b12, .inl (kI, 4000, .inl oV)), (b13, .inl (kI, 8, .inl (fun j => nI (oK j)))), (b14, .inl (kI, 8, .inl (fun j => nI (oL j)))), (m0, .inr (6, [.int f0, .int (nI nA), .ref b1, .ref b2, .ref b3, .ref b4, .ref b5, .ref b6, .ref b7, .int (nI (oK (d + 1))), .ref b8, .int (nI (oL (d + 1))), .ref b9, .ref b10, .ref b11, .ref b12, .ref b13, .ref b14, .int (nI d), .ref b15, .ref b16, .ref b17, .ref b18, .ref b19, .ref b20, .ref b21, .ref b22, .ref b23, .ref b24, .int (nI an), .int f2, .int f3, .int f4, .int f5])), (b15, .inl (kI, 256, .inl (upd (upd sk (32 * d + (ht d)) v) (32 * d + ((ht d) + 1)) 0))), (b16, .inl (kI, 8, .inl (fun j => nI (va_up (va_up ht d ((ht d) + 1)) d (((ht d) + 1) + 1) j))))] H := hP
            have hD : va_D A [(b22, .inl (kI, 8, .inl (fun j => nI (va_up gg d (gg d + (gg (d + 1))) j)))), (b17, .inl (kI, 8, .inl (upd (fun j => nI (pp j)) d (nI (pp d + 1))))), (b1, .inl (kI, 24, .inl bal2_3)), (b5, .inl (kI, 500, .inl ka2_4)), (b6, .inl (kI, 500, .inl kN2_5)), (b7, .inl (kI, 500, .inl kv2_6)), (b9, .inl (kI, 192, .inl oB)), (b10, .inl (kI, 4000, .inl oA)), (b11, .inl (kI, 4000, .inl oN)), (b12, .inl (kI, 4000, .inl oV)), (b13, .inl (kI, 8, .inl (fun j => nI (oK j)))), (b14, .inl (kI, 8, .inl (fun j => nI (oL j)))), (m0, .inr (6, [.int f0, .int (nI nA), .ref b1, .ref b2, .ref b3, .ref b4, .ref b5, .ref b6, .ref b7, .int (nI (oK (d + 1))), .ref b8, .int (nI (oL (d + 1))), .ref b9, .ref b10, .ref b11, .ref b12, .ref b13, .ref b14, .int (nI d), .ref b15, .ref b16, .ref b17, .ref b18, .ref b19, .ref b20, .ref b21, .ref b22, .ref b23, .ref b24, .int (nI an), .int f2, .int f3, .int f4, .int f5])), (b15, .inl (kI, 256, .inl (upd (upd sk (32 * d + (ht d)) v) (32 * d + ((ht d) + 1)) 0))), (b16, .inl (kI, 8, .inl (fun j => nI (va_up (va_up ht d ((ht d) + 1)) d (((ht d) + 1) + 1) j))))] := hD
            rw [(show upd (fun j => nI (pp j)) d (nI (pp d + 1)) = fun j => nI (va_up pp d (pp d + 1) j) from x_updL pp d (pp d + 1))] at hP hD
            have hP : va_P (dC, dI) xCl [(b22, .inl (kI, 8, .inl (fun j => nI (va_up gg d (gg d + (gg (d + 1))) j)))), (b17, .inl (kI, 8, .inl (fun j => nI (va_up pp d (pp d + 1) j)))), (b1, .inl (kI, 24, .inl bal2_3)), (b5, .inl (kI, 500, .inl ka2_4)), (b6, .inl (kI, 500, .inl kN2_5)), (b7, .inl (kI, 500, .inl kv2_6)), (b9, .inl (kI, 192, .inl oB)), (b10, .inl (kI, 4000, .inl oA)), (b11, .inl (kI, 4000, .inl oN)), (b12, .inl (kI, 4000, .inl oV)), (b13, .inl (kI, 8, .inl (fun j => nI (oK j)))), (b14, .inl (kI, 8, .inl (fun j => nI (oL j)))), (m0, .inr (6, [.int f0, .int (nI nA), .ref b1, .ref b2, .ref b3, .ref b4, .ref b5, .ref b6, .ref b7, .int (nI (oK (d + 1))), .ref b8, .int (nI (oL (d + 1))), .ref b9, .ref b10, .ref b11, .ref b12, .ref b13, .ref b14, .int (nI d), .ref b15, .ref b16, .ref b17, .ref b18, .ref b19, .ref b20, .ref b21, .ref b22, .ref b23, .ref b24, .int (nI an), .int f2, .int f3, .int f4, .int f5])), (b15, .inl (kI, 256, .inl (upd (upd sk (32 * d + (ht d)) v) (32 * d + ((ht d) + 1)) 0))), (b16, .inl (kI, 8, .inl (fun j => nI (va_up (va_up ht d ((ht d) + 1)) d (((ht d) + 1) + 1) j))))] H := hP
            have hD : va_D A [(b22, .inl (kI, 8, .inl (fun j => nI (va_up gg d (gg d + (gg (d + 1))) j)))), (b17, .inl (kI, 8, .inl (fun j => nI (va_up pp d (pp d + 1) j)))), (b1, .inl (kI, 24, .inl bal2_3)), (b5, .inl (kI, 500, .inl ka2_4)), (b6, .inl (kI, 500, .inl kN2_5)), (b7, .inl (kI, 500, .inl kv2_6)), (b9, .inl (kI, 192, .inl oB)), (b10, .inl (kI, 4000, .inl oA)), (b11, .inl (kI, 4000, .inl oN)), (b12, .inl (kI, 4000, .inl oV)), (b13, .inl (kI, 8, .inl (fun j => nI (oK j)))), (b14, .inl (kI, 8, .inl (fun j => nI (oL j)))), (m0, .inr (6, [.int f0, .int (nI nA), .ref b1, .ref b2, .ref b3, .ref b4, .ref b5, .ref b6, .ref b7, .int (nI (oK (d + 1))), .ref b8, .int (nI (oL (d + 1))), .ref b9, .ref b10, .ref b11, .ref b12, .ref b13, .ref b14, .int (nI d), .ref b15, .ref b16, .ref b17, .ref b18, .ref b19, .ref b20, .ref b21, .ref b22, .ref b23, .ref b24, .int (nI an), .int f2, .int f3, .int f4, .int f5])), (b15, .inl (kI, 256, .inl (upd (upd sk (32 * d + (ht d)) v) (32 * d + ((ht d) + 1)) 0))), (b16, .inl (kI, 8, .inl (fun j => nI (va_up (va_up ht d ((ht d) + 1)) d (((ht d) + 1) + 1) j))))] := hD
            exact hret  ((bal2_3, ka2_4, kN2_5, kv2_6)) _ _ _ (⟨hwmSeg_bal2, hwmSeg_ka2, hwmSeg_kN2, hwmSeg_kv2⟩) (hP.sub [12, 2, 3, 4, 5, 6, 7, 8, 9, 10, 11, 0, 14, 1, 13] rfl) (hD.sub [12, 2, 3, 4, 5, 6, 7, 8, 9, 10, 11, 0, 14, 1, 13] (by decide) rfl) hS dMod_end_130
          · exact absurd c106 (by decide)
        · have c43 : (d + 1) = 0 := (nI_eq (a := (d + 1)) (b := 0) (by omega) (by omega)).mp c43
          exfalso; omega
      · exact absurd c29 (by decide)
    · exact absurd c10 (by decide)

set_option maxHeartbeats 4000000 in
set_option maxRecDepth 100000 in
theorem kM_endCI (l : Launch) (dC : Nat → ClassId) (dI : Nat → Nat → Nat) (kI kJ kZ : ClassId) (m0 : Nat) (b1 : Nat) (b2 : Nat) (b3 : Nat) (b4 : Nat) (b5 : Nat) (b6 : Nat) (b7 : Nat) (b8 : Nat) (b9 : Nat) (b10 : Nat) (b11 : Nat) (b12 : Nat) (b13 : Nat) (b14 : Nat) (b15 : Nat) (b16 : Nat) (b17 : Nat) (b18 : Nat) (b19 : Nat) (b20 : Nat) (b21 : Nat) (b22 : Nat) (b23 : Nat) (b24 : Nat) (nA : Nat) (kn : Nat) (ln : Nat) (an : Nat) (f0 : Int32) (f2 : Int32) (f3 : Int32) (f4 : Int32) (f5 : Int32) (d : Nat) (ho : Nat) (bal : Nat → Int32) (ka : Nat → Int32) (kN : Nat → Int32) (kv : Nat → Int32) (oB : Nat → Int32) (oA : Nat → Int32) (oN : Nat → Int32) (oV : Nat → Int32) (oK : Nat → Nat) (oL : Nat → Nat) (gg : Nat → Nat) (sk : Nat → Int32) (ht : Nat → Nat) (pp : Nat → Nat) (hd8 : d < 7) (hht : ht d ≤ 30) (hoK : oK (d + 1) ≤ 500) (ho2 : 2 ≤ ho) (ho6 : ho ≤ 6) :
    XM stX l yMod_end wMod_end { frames := 1, cells := 0, slots := 0, locals := 21 } (dC, dI) xCl (x_T kI kJ kZ) [(m0, .inr (6, [.int f0, .int (nI nA), .ref b1, .ref b2, .ref b3, .ref b4, .ref b5, .ref b6, .ref b7, .int (nI kn), .ref b8, .int (nI ln), .ref b9, .ref b10, .ref b11, .ref b12, .ref b13, .ref b14, .int (nI (d + 1)), .ref b15, .ref b16, .ref b17, .ref b18, .ref b19, .ref b20, .ref b21, .ref b22, .ref b23, .ref b24, .int (nI an), .int f2, .int f3, .int f4, .int f5])), (b1, .inl (kI, 24, .inl bal)), (b5, .inl (kI, 500, .inl ka)), (b6, .inl (kI, 500, .inl kN)), (b7, .inl (kI, 500, .inl kv)), (b9, .inl (kI, 192, .inl oB)), (b10, .inl (kI, 4000, .inl oA)), (b11, .inl (kI, 4000, .inl oN)), (b12, .inl (kI, 4000, .inl oV)), (b13, .inl (kI, 8, .inl (fun j => nI (oK j)))), (b14, .inl (kI, 8, .inl (fun j => nI (oL j)))), (b22, .inl (kI, 8, .inl (fun j => nI (gg j)))), (b15, .inl (kI, 256, .inl sk)), (b16, .inl (kI, 8, .inl (fun j => nI (ht j)))), (b17, .inl (kI, 8, .inl (fun j => nI (pp j))))] [.ref m0, .int (nI ho), .int 0] 0 0 x_eV (fun (r : Unit) (u : (Nat → Int32) × (Nat → Int32) × (Nat → Int32) × (Nat → Int32)) => (mSeg u.1 bal 0 24 (fun i => oB (24 * (d + 1) + i))) ∧ (mSeg u.2.1 ka 0 (oK (d + 1)) (fun i => oA (500 * (d + 1) + i))) ∧ (mSeg u.2.2.1 kN 0 (oK (d + 1)) (fun i => oN (500 * (d + 1) + i))) ∧ (mSeg u.2.2.2 kv 0 (oK (d + 1)) (fun i => oV (500 * (d + 1) + i)))) (fun (u : (Nat → Int32) × (Nat → Int32) × (Nat → Int32) × (Nat → Int32)) => [(m0, .inr (6, [.int f0, .int (nI nA), .ref b1, .ref b2, .ref b3, .ref b4, .ref b5, .ref b6, .ref b7, .int (nI (oK (d + 1))), .ref b8, .int (nI (oL (d + 1))), .ref b9, .ref b10, .ref b11, .ref b12, .ref b13, .ref b14, .int (nI d), .ref b15, .ref b16, .ref b17, .ref b18, .ref b19, .ref b20, .ref b21, .ref b22, .ref b23, .ref b24, .int (nI an), .int f2, .int f3, .int f4, .int f5])), (b1, .inl (kI, 24, .inl u.1)), (b5, .inl (kI, 500, .inl u.2.1)), (b6, .inl (kI, 500, .inl u.2.2.1)), (b7, .inl (kI, 500, .inl u.2.2.2)), (b9, .inl (kI, 192, .inl oB)), (b10, .inl (kI, 4000, .inl oA)), (b11, .inl (kI, 4000, .inl oN)), (b12, .inl (kI, 4000, .inl oV)), (b13, .inl (kI, 8, .inl (fun j => nI (oK j)))), (b14, .inl (kI, 8, .inl (fun j => nI (oL j)))), (b22, .inl (kI, 8, .inl (fun j => nI (va_up gg d (gg d + 0) j)))), (b16, .inl (kI, 8, .inl (fun j => nI (va_up (va_up ht d (ht d + 1)) d (ht d + 1 + 1) j)))), (b17, .inl (kI, 8, .inl (fun j => nI (va_up pp d (pp d + 1) j)))), (b15, .inl (kI, 256, .inl (upd (upd sk (32 * d + ht d) 0) (32 * d + (ht d + 1)) 0)))]) := by
  refine XM.ofV (cc := cMod_end) (maxL := 5) (by decide) rfl (Nat.le_of_ble_eq_true rfl) ?_
  intro p e s m below meth c A Q hx hb hr hml hown hts hlocks hin hA hK hP hD hX hS ls hl hret
  have hl : lv_has ls 5 [(0, .ref m0), (1, .int (nI ho)), (2, .int 0)] := hl
  refine lv_iload_n hx hb dMod_end_0 rfl (lv_at hl 1 rfl) ?_
  refine lv_if_le (tgt := 8) hx hb dMod_end_1 (by decide) (fun c1 => ?_) (fun c1 => ?_)
  · have c1 : ho ≤ 0 := (nI_leI (a := ho) (b := 0) (by omega) (by omega)).mp c1
    exfalso; omega
  · have c1 : ¬ (ho ≤ 0) := fun z9 => c1 ((nI_leI (a := ho) (b := 0) (by omega) (by omega)).mpr z9)
    refine lv_aload_n hx hb dMod_end_4 rfl (lv_at hl 0 rfl) ?_
    refine XM.callVv (As := []) (rest := []) (wr := [(b22, .inl (kI, 8, .inl (fun j => nI (gg j)))), (b15, .inl (kI, 256, .inl sk)), (b16, .inl (kI, 8, .inl (fun j => nI (ht j)))), (b17, .inl (kI, 8, .inl (fun j => nI (pp j))))]) stX_ok ⟨hx, hb, hml, hown, hts⟩ (kM_undo l dC dI kI kJ kZ m0 b1 b2 b3 b4 b5 b6 b7 b8 b9 b10 b11 b12 b13 b14 b15 b16 b17 b18 b19 b20 b21 b22 b23 b24 nA kn ln an f0 f2 f3 f4 f5 (d + 1) bal ka kN kv oB oA oN oV oK oL (by first | assumption | omega) (by first | assumption | omega)) (cwV 0 hts (x_gV gw832 gw834 gw25 gw43 gw835) rfl rfl rfl (by decide +kernel) ⟨Nat.le_of_ble_eq_true rfl, Nat.le_of_ble_eq_true rfl⟩) hK hP hD hS hA hX [0, 1, 2, 3, 4, 5, 6, 7, 8, 9, 10] [11, 12, 13, 14] rfl rfl (by decide) (by decide) (by decide) rfl rfl rfl rfl hl.1 (Nat.le_of_ble_eq_true rfl) dMod_end_5 ⟨Nat.le_of_ble_eq_true rfl, Nat.le_of_ble_eq_true rfl⟩ (fun u_1 H locs hw hP hD hS => ?_)
    obtain ⟨bal2_3, ka2_4, kN2_5, kv2_6⟩ := u_1
    try dsimp only at hw
    obtain ⟨hwmSeg_bal2, hwmSeg_ka2, hwmSeg_kN2, hwmSeg_kv2⟩ := hw
    have hP : va_P (dC, dI) xCl [(b22, .inl (kI, 8, .inl (fun j => nI (gg j)))), (b15, .inl (kI, 256, .inl sk)), (b16, .inl (kI, 8, .inl (fun j => nI (ht j)))), (b17, .inl (kI, 8, .inl (fun j => nI (pp j)))), (m0, .inr (6, [.int f0, .int (nI nA), .ref b1, .ref b2, .ref b3, .ref b4, .ref b5, .ref b6, .ref b7, .int (nI (oK (d + 1))), .ref b8, .int (nI (oL (d + 1))), .ref b9, .ref b10, .ref b11, .ref b12, .ref b13, .ref b14, .int (nI (d + 1)), .ref b15, .ref b16, .ref b17, .ref b18, .ref b19, .ref b20, .ref b21, .ref b22, .ref b23, .ref b24, .int (nI an), .int f2, .int f3, .int f4, .int f5])), (b1, .inl (kI, 24, .inl bal2_3)), (b5, .inl (kI, 500, .inl ka2_4)), (b6, .inl (kI, 500, .inl kN2_5)), (b7, .inl (kI, 500, .inl kv2_6)), (b9, .inl (kI, 192, .inl oB)), (b10, .inl (kI, 4000, .inl oA)), (b11, .inl (kI, 4000, .inl oN)), (b12, .inl (kI, 4000, .inl oV)), (b13, .inl (kI, 8, .inl (fun j => nI (oK j)))), (b14, .inl (kI, 8, .inl (fun j => nI (oL j))))] H := hP
    have hD : va_D A [(b22, .inl (kI, 8, .inl (fun j => nI (gg j)))), (b15, .inl (kI, 256, .inl sk)), (b16, .inl (kI, 8, .inl (fun j => nI (ht j)))), (b17, .inl (kI, 8, .inl (fun j => nI (pp j)))), (m0, .inr (6, [.int f0, .int (nI nA), .ref b1, .ref b2, .ref b3, .ref b4, .ref b5, .ref b6, .ref b7, .int (nI (oK (d + 1))), .ref b8, .int (nI (oL (d + 1))), .ref b9, .ref b10, .ref b11, .ref b12, .ref b13, .ref b14, .int (nI (d + 1)), .ref b15, .ref b16, .ref b17, .ref b18, .ref b19, .ref b20, .ref b21, .ref b22, .ref b23, .ref b24, .int (nI an), .int f2, .int f3, .int f4, .int f5])), (b1, .inl (kI, 24, .inl bal2_3)), (b5, .inl (kI, 500, .inl ka2_4)), (b6, .inl (kI, 500, .inl kN2_5)), (b7, .inl (kI, 500, .inl kv2_6)), (b9, .inl (kI, 192, .inl oB)), (b10, .inl (kI, 4000, .inl oA)), (b11, .inl (kI, 4000, .inl oN)), (b12, .inl (kI, 4000, .inl oV)), (b13, .inl (kI, 8, .inl (fun j => nI (oK j)))), (b14, .inl (kI, 8, .inl (fun j => nI (oL j))))] := hD
    refine lv_iload_n hx hb dMod_end_8 rfl (lv_at hl 1 rfl) ?_
    refine lv_iconst (v := 1) hx hb dMod_end_9 (by decide) ?_
    refine lv_icmp_le (tgt := 17) hx hb dMod_end_10 (by decide) (fun c10 => ?_) (fun c10 => ?_)
    · have c10 : ho ≤ 1 := (nI_leI (a := ho) (b := 1) (by omega) (by omega)).mp c10
      exfalso; omega
    · have c10 : ¬ (ho ≤ 1) := fun z9 => c10 ((nI_leI (a := ho) (b := 1) (by omega) (by omega)).mpr z9)
      refine lv_iconst (v := 0) hx hb dMod_end_13 (by decide) ?_
      refine lv_goto (tgt := 26) hx hb dMod_end_14 (by decide) ?_
      refine lv_istore_n (lv' := [(3, .int 0), (0, .ref m0), (1, .int (nI ho)), (2, .int 0)]) hx hb dMod_end_26 rfl hl (by decide) rfl (fun ls hl => ?_)
      refine lv_iload_n hx hb dMod_end_27 rfl (lv_at hl 2 rfl) ?_
      refine lv_iconst (v := 1) hx hb dMod_end_28 (by decide) ?_
      refine lv_icmp_le (tgt := 36) hx hb dMod_end_29 (by decide) (fun c29 => ?_) (fun c29 => ?_)
      · have c29 : ho ≤ 1 := (nI_leI (a := ho) (b := 1) (by omega) (by omega)).mp c29
        refine lv_iload_n hx hb dMod_end_36 rfl (lv_at hl 3 rfl) ?_
        refine lv_istore (lv' := [(4, .int 0), (3, .int 0), (0, .ref m0), (1, .int (nI ho)), (2, .int 0)]) hx hb dMod_end_37 hl (by decide) rfl (fun ls hl => ?_)
        refine lv_aload_n hx hb dMod_end_39 rfl (lv_at hl 2 rfl) ?_
        refine va_get (D := (dC, dI)) (ci := 6) (v := .int (nI (d + 1))) (C := RMod) (T := TMod) (N := 34) hx hb hts (fun w h => List.mem_cons_of_mem _ (layMod w h)) hown hK hP 4 rfl rfl 18 (by decide) (hts (.fieldLink RMod 126 "CallLedgerModel" "depth" "I") (List.mem_cons_of_mem _ gw662)) (fun _ h9 => h9) rfl dMod_end_40 ?_
        refine lv_if_ne (tgt := 68) hx hb dMod_end_43 (by decide) (fun c43 => ?_) (fun c43 => ?_)
        · have c43 : ¬ ((d + 1) = 0) := fun z9 => c43 ((nI_eq (a := (d + 1)) (b := 0) (by omega) (by omega)).mpr z9)
          refine lv_aload_n hx hb dMod_end_68 rfl (lv_at hl 2 rfl) ?_
          refine lv_dup hx hb dMod_end_69 rfl ?_
          refine va_get (D := (dC, dI)) (ci := 6) (v := .int (nI (d + 1))) (C := RMod) (T := TMod) (N := 34) hx hb hts (fun w h => List.mem_cons_of_mem _ (layMod w h)) hown hK hP 4 rfl rfl 18 (by decide) (hts (.fieldLink RMod 126 "CallLedgerModel" "depth" "I") (List.mem_cons_of_mem _ gw662)) (fun _ h9 => h9) rfl dMod_end_70 ?_
          refine lv_iconst (v := 1) hx hb dMod_end_73 (by decide) ?_
          refine lv_isub hx hb dMod_end_74 ?_
          refine x_topi (y := nI d) ((x_pred (by omega)).trans (by rw [Nat.add_sub_cancel])) ?_
          refine va_put (D := (dC, dI)) (ci := 6) (v := .int (nI d)) (ty := .int) (C := RMod) (T := TMod) (N := 34) hx hb hts (fun w h => List.mem_cons_of_mem _ (layMod w h)) tyMod tykMod nmMod hown hK hP hD hS 4 rfl rfl 18 (by decide) (hts (.fieldLink RMod 126 "CallLedgerModel" "depth" "I") (List.mem_cons_of_mem _ gw662)) (fun _ h9 => h9) rfl (by decide +kernel) rfl rfl (Nat.le_of_ble_eq_true rfl) dMod_end_75 (fun H locs hP hD hS => ?_)
          have hP : va_P (dC, dI) xCl [(b22, .inl (kI, 8, .inl (fun j => nI (gg j)))), (b15, .inl (kI, 256, .inl sk)), (b16, .inl (kI, 8, .inl (fun j => nI (ht j)))), (b17, .inl (kI, 8, .inl (fun j => nI (pp j)))), (m0, .inr (6, [.int f0, .int (nI nA), .ref b1, .ref b2, .ref b3, .ref b4, .ref b5, .ref b6, .ref b7, .int (nI (oK (d + 1))), .ref b8, .int (nI (oL (d + 1))), .ref b9, .ref b10, .ref b11, .ref b12, .ref b13, .ref b14, .int (nI d), .ref b15, .ref b16, .ref b17, .ref b18, .ref b19, .ref b20, .ref b21, .ref b22, .ref b23, .ref b24, .int (nI an), .int f2, .int f3, .int f4, .int f5])), (b1, .inl (kI, 24, .inl bal2_3)), (b5, .inl (kI, 500, .inl ka2_4)), (b6, .inl (kI, 500, .inl kN2_5)), (b7, .inl (kI, 500, .inl kv2_6)), (b9, .inl (kI, 192, .inl oB)), (b10, .inl (kI, 4000, .inl oA)), (b11, .inl (kI, 4000, .inl oN)), (b12, .inl (kI, 4000, .inl oV)), (b13, .inl (kI, 8, .inl (fun j => nI (oK j)))), (b14, .inl (kI, 8, .inl (fun j => nI (oL j))))] H := hP
          have hD : va_D A [(b22, .inl (kI, 8, .inl (fun j => nI (gg j)))), (b15, .inl (kI, 256, .inl sk)), (b16, .inl (kI, 8, .inl (fun j => nI (ht j)))), (b17, .inl (kI, 8, .inl (fun j => nI (pp j)))), (m0, .inr (6, [.int f0, .int (nI nA), .ref b1, .ref b2, .ref b3, .ref b4, .ref b5, .ref b6, .ref b7, .int (nI (oK (d + 1))), .ref b8, .int (nI (oL (d + 1))), .ref b9, .ref b10, .ref b11, .ref b12, .ref b13, .ref b14, .int (nI d), .ref b15, .ref b16, .ref b17, .ref b18, .ref b19, .ref b20, .ref b21, .ref b22, .ref b23, .ref b24, .int (nI an), .int f2, .int f3, .int f4, .int f5])), (b1, .inl (kI, 24, .inl bal2_3)), (b5, .inl (kI, 500, .inl ka2_4)), (b6, .inl (kI, 500, .inl kN2_5)), (b7, .inl (kI, 500, .inl kv2_6)), (b9, .inl (kI, 192, .inl oB)), (b10, .inl (kI, 4000, .inl oA)), (b11, .inl (kI, 4000, .inl oN)), (b12, .inl (kI, 4000, .inl oV)), (b13, .inl (kI, 8, .inl (fun j => nI (oK j)))), (b14, .inl (kI, 8, .inl (fun j => nI (oL j))))] := hD
          refine lv_aload_n hx hb dMod_end_78 rfl (lv_at hl 2 rfl) ?_
          refine va_get (D := (dC, dI)) (ci := 6) (v := .ref b22) (C := RMod) (T := TMod) (N := 34) hx hb hts (fun w h => List.mem_cons_of_mem _ (layMod w h)) hown hK hP 4 rfl rfl 26 (by decide) (hts (.fieldLink RMod 74 "CallLedgerModel" "gases" "[I") (List.mem_cons_of_mem _ gw670)) (fun _ h9 => h9) rfl dMod_end_79 ?_
          refine lv_aload_n hx hb dMod_end_82 rfl (lv_at hl 2 rfl) ?_
          refine va_get (D := (dC, dI)) (ci := 6) (v := .int (nI d)) (C := RMod) (T := TMod) (N := 34) hx hb hts (fun w h => List.mem_cons_of_mem _ (layMod w h)) hown hK hP 4 rfl rfl 18 (by decide) (hts (.fieldLink RMod 126 "CallLedgerModel" "depth" "I") (List.mem_cons_of_mem _ gw662)) (fun _ h9 => h9) rfl dMod_end_83 ?_
          refine lv_aload_n hx hb dMod_end_86 rfl (lv_at hl 2 rfl) ?_
          refine va_get (D := (dC, dI)) (ci := 6) (v := .ref b22) (C := RMod) (T := TMod) (N := 34) hx hb hts (fun w h => List.mem_cons_of_mem _ (layMod w h)) hown hK hP 4 rfl rfl 26 (by decide) (hts (.fieldLink RMod 74 "CallLedgerModel" "gases" "[I") (List.mem_cons_of_mem _ gw670)) (fun _ h9 => h9) rfl dMod_end_87 ?_
          refine lv_aload_n hx hb dMod_end_90 rfl (lv_at hl 2 rfl) ?_
          refine va_get (D := (dC, dI)) (ci := 6) (v := .int (nI d)) (C := RMod) (T := TMod) (N := 34) hx hb hts (fun w h => List.mem_cons_of_mem _ (layMod w h)) hown hK hP 4 rfl rfl 18 (by decide) (hts (.fieldLink RMod 126 "CallLedgerModel" "depth" "I") (List.mem_cons_of_mem _ gw662)) (fun _ h9 => h9) rfl dMod_end_91 ?_
          refine x_iald (j := d) hx hb hK hP 0 0 rfl rfl rfl (by omega) (by omega) dMod_end_94 ?_
          refine lv_iload_n hx hb dMod_end_95 rfl (lv_at hl 1 rfl) ?_
          refine lv_iadd hx hb dMod_end_96 ?_
          refine x_topi (y := nI (gg d + 0)) (nI_add _ 0) ?_
          refine x_iast (j := d) hx hb hK hP hD hS 0 0 rfl rfl rfl (by omega) (by omega) dMod_end_97 (fun H locs hP hD hS => ?_)
          have hP : va_P (dC, dI) xCl [(b22, .inl (kI, 8, .inl (upd (fun j => nI (gg j)) d (nI (gg d + 0))))), (b15, .inl (kI, 256, .inl sk)), (b16, .inl (kI, 8, .inl (fun j => nI (ht j)))), (b17, .inl (kI, 8, .inl (fun j => nI (pp j)))), (m0, .inr (6, [.int f0, .int (nI nA), .ref b1, .ref b2, .ref b3, .ref b4, .ref b5, .ref b6, .ref b7, .int (nI (oK (d + 1))), .ref b8, .int (nI (oL (d + 1))), .ref b9, .ref b10, .ref b11, .ref b12, .ref b13, .ref b14, .int (nI d), .ref b15, .ref b16, .ref b17, .ref b18, .ref b19, .ref b20, .ref b21, .ref b22, .ref b23, .ref b24, .int (nI an), .int f2, .int f3, .int f4, .int f5])), (b1, .inl (kI, 24, .inl bal2_3)), (b5, .inl (kI, 500, .inl ka2_4)), (b6, .inl (kI, 500, .inl kN2_5)), (b7, .inl (kI, 500, .inl kv2_6)), (b9, .inl (kI, 192, .inl oB)), (b10, .inl (kI, 4000, .inl oA)), (b11, .inl (kI, 4000, .inl oN)), (b12, .inl (kI, 4000, .inl oV)), (b13, .inl (kI, 8, .inl (fun j => nI (oK j)))), (b14, .inl (kI, 8, .inl (fun j => nI (oL j))))] H := hP
          have hD : va_D A [(b22, .inl (kI, 8, .inl (upd (fun j => nI (gg j)) d (nI (gg d + 0))))), (b15, .inl (kI, 256, .inl sk)), (b16, .inl (kI, 8, .inl (fun j => nI (ht j)))), (b17, .inl (kI, 8, .inl (fun j => nI (pp j)))), (m0, .inr (6, [.int f0, .int (nI nA), .ref b1, .ref b2, .ref b3, .ref b4, .ref b5, .ref b6, .ref b7, .int (nI (oK (d + 1))), .ref b8, .int (nI (oL (d + 1))), .ref b9, .ref b10, .ref b11, .ref b12, .ref b13, .ref b14, .int (nI d), .ref b15, .ref b16, .ref b17, .ref b18, .ref b19, .ref b20, .ref b21, .ref b22, .ref b23, .ref b24, .int (nI an), .int f2, .int f3, .int f4, .int f5])), (b1, .inl (kI, 24, .inl bal2_3)), (b5, .inl (kI, 500, .inl ka2_4)), (b6, .inl (kI, 500, .inl kN2_5)), (b7, .inl (kI, 500, .inl kv2_6)), (b9, .inl (kI, 192, .inl oB)), (b10, .inl (kI, 4000, .inl oA)), (b11, .inl (kI, 4000, .inl oN)), (b12, .inl (kI, 4000, .inl oV)), (b13, .inl (kI, 8, .inl (fun j => nI (oK j)))), (b14, .inl (kI, 8, .inl (fun j => nI (oL j))))] := hD
          rw [(show upd (fun j => nI (gg j)) d (nI (gg d + 0)) = fun j => nI (va_up gg d (gg d + 0) j) from x_updL gg d (gg d + 0))] at hP hD
          have hP : va_P (dC, dI) xCl [(b22, .inl (kI, 8, .inl (fun j => nI (va_up gg d (gg d + 0) j)))), (b15, .inl (kI, 256, .inl sk)), (b16, .inl (kI, 8, .inl (fun j => nI (ht j)))), (b17, .inl (kI, 8, .inl (fun j => nI (pp j)))), (m0, .inr (6, [.int f0, .int (nI nA), .ref b1, .ref b2, .ref b3, .ref b4, .ref b5, .ref b6, .ref b7, .int (nI (oK (d + 1))), .ref b8, .int (nI (oL (d + 1))), .ref b9, .ref b10, .ref b11, .ref b12, .ref b13, .ref b14, .int (nI d), .ref b15, .ref b16, .ref b17, .ref b18, .ref b19, .ref b20, .ref b21, .ref b22, .ref b23, .ref b24, .int (nI an), .int f2, .int f3, .int f4, .int f5])), (b1, .inl (kI, 24, .inl bal2_3)), (b5, .inl (kI, 500, .inl ka2_4)), (b6, .inl (kI, 500, .inl kN2_5)), (b7, .inl (kI, 500, .inl kv2_6)), (b9, .inl (kI, 192, .inl oB)), (b10, .inl (kI, 4000, .inl oA)), (b11, .inl (kI, 4000, .inl oN)), (b12, .inl (kI, 4000, .inl oV)), (b13, .inl (kI, 8, .inl (fun j => nI (oK j)))), (b14, .inl (kI, 8, .inl (fun j => nI (oL j))))] H := hP
          have hD : va_D A [(b22, .inl (kI, 8, .inl (fun j => nI (va_up gg d (gg d + 0) j)))), (b15, .inl (kI, 256, .inl sk)), (b16, .inl (kI, 8, .inl (fun j => nI (ht j)))), (b17, .inl (kI, 8, .inl (fun j => nI (pp j)))), (m0, .inr (6, [.int f0, .int (nI nA), .ref b1, .ref b2, .ref b3, .ref b4, .ref b5, .ref b6, .ref b7, .int (nI (oK (d + 1))), .ref b8, .int (nI (oL (d + 1))), .ref b9, .ref b10, .ref b11, .ref b12, .ref b13, .ref b14, .int (nI d), .ref b15, .ref b16, .ref b17, .ref b18, .ref b19, .ref b20, .ref b21, .ref b22, .ref b23, .ref b24, .int (nI an), .int f2, .int f3, .int f4, .int f5])), (b1, .inl (kI, 24, .inl bal2_3)), (b5, .inl (kI, 500, .inl ka2_4)), (b6, .inl (kI, 500, .inl kN2_5)), (b7, .inl (kI, 500, .inl kv2_6)), (b9, .inl (kI, 192, .inl oB)), (b10, .inl (kI, 4000, .inl oA)), (b11, .inl (kI, 4000, .inl oN)), (b12, .inl (kI, 4000, .inl oV)), (b13, .inl (kI, 8, .inl (fun j => nI (oK j)))), (b14, .inl (kI, 8, .inl (fun j => nI (oL j))))] := hD
          refine lv_aload_n hx hb dMod_end_98 rfl (lv_at hl 2 rfl) ?_
          refine lv_iload hx hb dMod_end_99 (lv_at hl 0 rfl) ?_
          refine XM.callVv (As := [.int 0]) (rest := []) (wr := [(b22, .inl (kI, 8, .inl (fun j => nI (va_up gg d (gg d + 0) j)))), (b17, .inl (kI, 8, .inl (fun j => nI (pp j)))), (b1, .inl (kI, 24, .inl bal2_3)), (b5, .inl (kI, 500, .inl ka2_4)), (b6, .inl (kI, 500, .inl kN2_5)), (b7, .inl (kI, 500, .inl kv2_6)), (b9, .inl (kI, 192, .inl oB)), (b10, .inl (kI, 4000, .inl oA)), (b11, .inl (kI, 4000, .inl oN)), (b12, .inl (kI, 4000, .inl oV)), (b13, .inl (kI, 8, .inl (fun j => nI (oK j)))), (b14, .inl (kI, 8, .inl (fun j => nI (oL j))))]) stX_ok ⟨hx, hb, hml, hown, hts⟩ (kM_push l dC dI kI kJ kZ m0 b1 b2 b3 b4 b5 b6 b7 b8 b9 b10 b11 b12 b13 b14 b15 b16 b17 b18 b19 b20 b21 b22 b23 b24 nA (oK (d + 1)) (oL (d + 1)) an f0 f2 f3 f4 f5 d sk ht (ht d) 0 (by first | assumption | omega) (by first | assumption | rfl | exact va_up_at) (by first | assumption | omega)) (cwV 1 hts (x_gV gw836 gw838 gw26 gw43 gw839) rfl rfl rfl (by decide +kernel) ⟨Nat.le_of_ble_eq_true rfl, Nat.le_of_ble_eq_true rfl⟩) hK hP hD hS hA hX [4, 1, 2] [0, 3, 5, 6, 7, 8, 9, 10, 11, 12, 13, 14] rfl rfl (by decide) (by decide) (by decide) rfl rfl rfl rfl hl.1 (Nat.le_of_ble_eq_true rfl) dMod_end_101 ⟨Nat.le_of_ble_eq_true rfl, Nat.le_of_ble_eq_true rfl⟩ (fun u_7 H locs hw hP hD hS => ?_)
          have hP : va_P (dC, dI) xCl [(b22, .inl (kI, 8, .inl (fun j => nI (va_up gg d (gg d + 0) j)))), (b17, .inl (kI, 8, .inl (fun j => nI (pp j)))), (b1, .inl (kI, 24, .inl bal2_3)), (b5, .inl (kI, 500, .inl ka2_4)), (b6, .inl (kI, 500, .inl kN2_5)), (b7, .inl (kI, 500, .inl kv2_6)), (b9, .inl (kI, 192, .inl oB)), (b10, .inl (kI, 4000, .inl oA)), (b11, .inl (kI, 4000, .inl oN)), (b12, .inl (kI, 4000, .inl oV)), (b13, .inl (kI, 8, .inl (fun j => nI (oK j)))), (b14, .inl (kI, 8, .inl (fun j => nI (oL j)))), (m0, .inr (6, [.int f0, .int (nI nA), .ref b1, .ref b2, .ref b3, .ref b4, .ref b5, .ref b6, .ref b7, .int (nI (oK (d + 1))), .ref b8, .int (nI (oL (d + 1))), .ref b9, .ref b10, .ref b11, .ref b12, .ref b13, .ref b14, .int (nI d), .ref b15, .ref b16, .ref b17, .ref b18, .ref b19, .ref b20, .ref b21, .ref b22, .ref b23, .ref b24, .int (nI an), .int f2, .int f3, .int f4, .int f5])), (b15, .inl (kI, 256, .inl (upd sk (32 * d + (ht d)) 0))), (b16, .inl (kI, 8, .inl (fun j => nI (va_up ht d ((ht d) + 1) j))))] H := hP
          have hD : va_D A [(b22, .inl (kI, 8, .inl (fun j => nI (va_up gg d (gg d + 0) j)))), (b17, .inl (kI, 8, .inl (fun j => nI (pp j)))), (b1, .inl (kI, 24, .inl bal2_3)), (b5, .inl (kI, 500, .inl ka2_4)), (b6, .inl (kI, 500, .inl kN2_5)), (b7, .inl (kI, 500, .inl kv2_6)), (b9, .inl (kI, 192, .inl oB)), (b10, .inl (kI, 4000, .inl oA)), (b11, .inl (kI, 4000, .inl oN)), (b12, .inl (kI, 4000, .inl oV)), (b13, .inl (kI, 8, .inl (fun j => nI (oK j)))), (b14, .inl (kI, 8, .inl (fun j => nI (oL j)))), (m0, .inr (6, [.int f0, .int (nI nA), .ref b1, .ref b2, .ref b3, .ref b4, .ref b5, .ref b6, .ref b7, .int (nI (oK (d + 1))), .ref b8, .int (nI (oL (d + 1))), .ref b9, .ref b10, .ref b11, .ref b12, .ref b13, .ref b14, .int (nI d), .ref b15, .ref b16, .ref b17, .ref b18, .ref b19, .ref b20, .ref b21, .ref b22, .ref b23, .ref b24, .int (nI an), .int f2, .int f3, .int f4, .int f5])), (b15, .inl (kI, 256, .inl (upd sk (32 * d + (ht d)) 0))), (b16, .inl (kI, 8, .inl (fun j => nI (va_up ht d ((ht d) + 1) j))))] := hD
          refine lv_aload_n hx hb dMod_end_104 rfl (lv_at hl 2 rfl) ?_
          refine lv_iload_n hx hb dMod_end_105 rfl (lv_at hl 3 rfl) ?_
          refine lv_if_ne (tgt := 113) hx hb dMod_end_106 (by decide) (fun c106 => ?_) (fun c106 => ?_)
          · have c106 : ¬ (ho = 0) := fun z9 => c106 ((nI_eq (a := ho) (b := 0) (by omega) (by omega)).mpr z9)
            refine lv_iconst (v := 0) hx hb dMod_end_113 (by decide) ?_
            refine XM.callVv (As := [.int 0]) (rest := []) (wr := [(b22, .inl (kI, 8, .inl (fun j => nI (va_up gg d (gg d + 0) j)))), (b17, .inl (kI, 8, .inl (fun j => nI (pp j)))), (b1, .inl (kI, 24, .inl bal2_3)), (b5, .inl (kI, 500, .inl ka2_4)), (b6, .inl (kI, 500, .inl kN2_5)), (b7, .inl (kI, 500, .inl kv2_6)), (b9, .inl (kI, 192, .inl oB)), (b10, .inl (kI, 4000, .inl oA)), (b11, .inl (kI, 4000, .inl oN)), (b12, .inl (kI, 4000, .inl oV)), (b13, .inl (kI, 8, .inl (fun j => nI (oK j)))), (b14, .inl (kI, 8, .inl (fun j => nI (oL j))))]) stX_ok ⟨hx, hb, hml, hown, hts⟩ (kM_push l dC dI kI kJ kZ m0 b1 b2 b3 b4 b5 b6 b7 b8 b9 b10 b11 b12 b13 b14 b15 b16 b17 b18 b19 b20 b21 b22 b23 b24 nA (oK (d + 1)) (oL (d + 1)) an f0 f2 f3 f4 f5 d (upd sk (32 * d + (ht d)) 0) (va_up ht d ((ht d) + 1)) ((ht d) + 1) 0 (by first | assumption | omega) (by first | assumption | rfl | exact va_up_at) (by first | assumption | omega)) (cwV 1 hts (x_gV gw836 gw838 gw26 gw43 gw839) rfl rfl rfl (by decide +kernel) ⟨Nat.le_of_ble_eq_true rfl, Nat.le_of_ble_eq_true rfl⟩) hK hP hD hS hA hX [12, 13, 14] [0, 1, 2, 3, 4, 5, 6, 7, 8, 9, 10, 11] rfl rfl (by decide) (by decide) (by decide) rfl rfl rfl rfl hl.1 (Nat.le_of_ble_eq_true rfl) dMod_end_114 ⟨Nat.le_of_ble_eq_true rfl, Nat.le_of_ble_eq_true rfl⟩ (fun u_9 H locs hw hP hD hS => ?_)
            have hP : va_P (dC, dI) xCl [(b22, .inl (kI, 8, .inl (fun j => nI (va_up gg d (gg d + 0) j)))), (b17, .inl (kI, 8, .inl (fun j => nI (pp j)))), (b1, .inl (kI, 24, .inl bal2_3)), (b5, .inl (kI, 500, .inl ka2_4)), (b6, .inl (kI, 500, .inl kN2_5)), (b7, .inl (kI, 500, .inl kv2_6)), (b9, .inl (kI, 192, .inl oB)), (b10, .inl (kI, 4000, .inl oA)), (b11, .inl (kI, 4000, .inl oN)), (b12, .inl (kI, 4000, .inl oV)), (b13, .inl (kI, 8, .inl (fun j => nI (oK j)))), (b14, .inl (kI, 8, .inl (fun j => nI (oL j)))), (m0, .inr (6, [.int f0, .int (nI nA), .ref b1, .ref b2, .ref b3, .ref b4, .ref b5, .ref b6, .ref b7, .int (nI (oK (d + 1))), .ref b8, .int (nI (oL (d + 1))), .ref b9, .ref b10, .ref b11, .ref b12, .ref b13, .ref b14, .int (nI d), .ref b15, .ref b16, .ref b17, .ref b18, .ref b19, .ref b20, .ref b21, .ref b22, .ref b23, .ref b24, .int (nI an), .int f2, .int f3, .int f4, .int f5])), (b15, .inl (kI, 256, .inl (upd (upd sk (32 * d + (ht d)) 0) (32 * d + ((ht d) + 1)) 0))), (b16, .inl (kI, 8, .inl (fun j => nI (va_up (va_up ht d ((ht d) + 1)) d (((ht d) + 1) + 1) j))))] H := hP
            have hD : va_D A [(b22, .inl (kI, 8, .inl (fun j => nI (va_up gg d (gg d + 0) j)))), (b17, .inl (kI, 8, .inl (fun j => nI (pp j)))), (b1, .inl (kI, 24, .inl bal2_3)), (b5, .inl (kI, 500, .inl ka2_4)), (b6, .inl (kI, 500, .inl kN2_5)), (b7, .inl (kI, 500, .inl kv2_6)), (b9, .inl (kI, 192, .inl oB)), (b10, .inl (kI, 4000, .inl oA)), (b11, .inl (kI, 4000, .inl oN)), (b12, .inl (kI, 4000, .inl oV)), (b13, .inl (kI, 8, .inl (fun j => nI (oK j)))), (b14, .inl (kI, 8, .inl (fun j => nI (oL j)))), (m0, .inr (6, [.int f0, .int (nI nA), .ref b1, .ref b2, .ref b3, .ref b4, .ref b5, .ref b6, .ref b7, .int (nI (oK (d + 1))), .ref b8, .int (nI (oL (d + 1))), .ref b9, .ref b10, .ref b11, .ref b12, .ref b13, .ref b14, .int (nI d), .ref b15, .ref b16, .ref b17, .ref b18, .ref b19, .ref b20, .ref b21, .ref b22, .ref b23, .ref b24, .int (nI an), .int f2, .int f3, .int f4, .int f5])), (b15, .inl (kI, 256, .inl (upd (upd sk (32 * d + (ht d)) 0) (32 * d + ((ht d) + 1)) 0))), (b16, .inl (kI, 8, .inl (fun j => nI (va_up (va_up ht d ((ht d) + 1)) d (((ht d) + 1) + 1) j))))] := hD
            refine lv_aload_n hx hb dMod_end_117 rfl (lv_at hl 2 rfl) ?_
            refine va_get (D := (dC, dI)) (ci := 6) (v := .ref b17) (C := RMod) (T := TMod) (N := 34) hx hb hts (fun w h => List.mem_cons_of_mem _ (layMod w h)) hown hK hP 12 rfl rfl 21 (by decide) (hts (.fieldLink RMod 59 "CallLedgerModel" "places" "[I") (List.mem_cons_of_mem _ gw665)) (fun _ h9 => h9) rfl dMod_end_118 ?_
            refine lv_aload_n hx hb dMod_end_121 rfl (lv_at hl 2 rfl) ?_
            refine va_get (D := (dC, dI)) (ci := 6) (v := .int (nI d)) (C := RMod) (T := TMod) (N := 34) hx hb hts (fun w h => List.mem_cons_of_mem _ (layMod w h)) hown hK hP 12 rfl rfl 18 (by decide) (hts (.fieldLink RMod 126 "CallLedgerModel" "depth" "I") (List.mem_cons_of_mem _ gw662)) (fun _ h9 => h9) rfl dMod_end_122 ?_
            refine lv_dup2_11 hx hb dMod_end_125 rfl rfl ?_
            refine x_iald (j := d) hx hb hK hP 1 0 rfl rfl rfl (by omega) (by omega) dMod_end_126 ?_
            refine lv_iconst (v := 1) hx hb dMod_end_127 (by decide) ?_
            refine lv_iadd hx hb dMod_end_128 ?_
            refine x_topi (y := nI (pp d + 1)) (nI_1 _) ?_
            refine x_iast (j := d) hx hb hK hP hD hS 1 0 rfl rfl rfl (by omega) (by omega) dMod_end_129 (fun H locs hP hD hS => ?_)
            have hP : va_P (dC, dI) xCl [(b22, .inl (kI, 8, .inl (fun j => nI (va_up gg d (gg d + 0) j)))), (b17, .inl (kI, 8, .inl (upd (fun j => nI (pp j)) d (nI (pp d + 1))))), (b1, .inl (kI, 24, .inl bal2_3)), (b5, .inl (kI, 500, .inl ka2_4)), (b6, .inl (kI, 500, .inl kN2_5)), (b7, .inl (kI, 500, .inl kv2_6)), (b9, .inl (kI, 192, .inl oB)), (b10, .inl (kI, 4000, .inl oA)), (b11, .inl (kI, 4000, .inl oN)), (b12, .inl (kI, 4000, .inl oV)), (b13, .inl (kI, 8, .inl (fun j => nI (oK j)))), (b14, .inl (kI, 8, .inl (fun j => nI (oL j)))), (m0, .inr (6, [.int f0, .int (nI nA), .ref b1, .ref b2, .ref b3, .ref b4, .ref b5, .ref b6, .ref b7, .int (nI (oK (d + 1))), .ref b8, .int (nI (oL (d + 1))), .ref b9, .ref b10, .ref b11, .ref b12, .ref b13, .ref b14, .int (nI d), .ref b15, .ref b16, .ref b17, .ref b18, .ref b19, .ref b20, .ref b21, .ref b22, .ref b23, .ref b24, .int (nI an), .int f2, .int f3, .int f4, .int f5])), (b15, .inl (kI, 256, .inl (upd (upd sk (32 * d + (ht d)) 0) (32 * d + ((ht d) + 1)) 0))), (b16, .inl (kI, 8, .inl (fun j => nI (va_up (va_up ht d ((ht d) + 1)) d (((ht d) + 1) + 1) j))))] H := hP
            have hD : va_D A [(b22, .inl (kI, 8, .inl (fun j => nI (va_up gg d (gg d + 0) j)))), (b17, .inl (kI, 8, .inl (upd (fun j => nI (pp j)) d (nI (pp d + 1))))), (b1, .inl (kI, 24, .inl bal2_3)), (b5, .inl (kI, 500, .inl ka2_4)), (b6, .inl (kI, 500, .inl kN2_5)), (b7, .inl (kI, 500, .inl kv2_6)), (b9, .inl (kI, 192, .inl oB)), (b10, .inl (kI, 4000, .inl oA)), (b11, .inl (kI, 4000, .inl oN)), (b12, .inl (kI, 4000, .inl oV)), (b13, .inl (kI, 8, .inl (fun j => nI (oK j)))), (b14, .inl (kI, 8, .inl (fun j => nI (oL j)))), (m0, .inr (6, [.int f0, .int (nI nA), .ref b1, .ref b2, .ref b3, .ref b4, .ref b5, .ref b6, .ref b7, .int (nI (oK (d + 1))), .ref b8, .int (nI (oL (d + 1))), .ref b9, .ref b10, .ref b11, .ref b12, .ref b13, .ref b14, .int (nI d), .ref b15, .ref b16, .ref b17, .ref b18, .ref b19, .ref b20, .ref b21, .ref b22, .ref b23, .ref b24, .int (nI an), .int f2, .int f3, .int f4, .int f5])), (b15, .inl (kI, 256, .inl (upd (upd sk (32 * d + (ht d)) 0) (32 * d + ((ht d) + 1)) 0))), (b16, .inl (kI, 8, .inl (fun j => nI (va_up (va_up ht d ((ht d) + 1)) d (((ht d) + 1) + 1) j))))] := hD
            rw [(show upd (fun j => nI (pp j)) d (nI (pp d + 1)) = fun j => nI (va_up pp d (pp d + 1) j) from x_updL pp d (pp d + 1))] at hP hD
            have hP : va_P (dC, dI) xCl [(b22, .inl (kI, 8, .inl (fun j => nI (va_up gg d (gg d + 0) j)))), (b17, .inl (kI, 8, .inl (fun j => nI (va_up pp d (pp d + 1) j)))), (b1, .inl (kI, 24, .inl bal2_3)), (b5, .inl (kI, 500, .inl ka2_4)), (b6, .inl (kI, 500, .inl kN2_5)), (b7, .inl (kI, 500, .inl kv2_6)), (b9, .inl (kI, 192, .inl oB)), (b10, .inl (kI, 4000, .inl oA)), (b11, .inl (kI, 4000, .inl oN)), (b12, .inl (kI, 4000, .inl oV)), (b13, .inl (kI, 8, .inl (fun j => nI (oK j)))), (b14, .inl (kI, 8, .inl (fun j => nI (oL j)))), (m0, .inr (6, [.int f0, .int (nI nA), .ref b1, .ref b2, .ref b3, .ref b4, .ref b5, .ref b6, .ref b7, .int (nI (oK (d + 1))), .ref b8, .int (nI (oL (d + 1))), .ref b9, .ref b10, .ref b11, .ref b12, .ref b13, .ref b14, .int (nI d), .ref b15, .ref b16, .ref b17, .ref b18, .ref b19, .ref b20, .ref b21, .ref b22, .ref b23, .ref b24, .int (nI an), .int f2, .int f3, .int f4, .int f5])), (b15, .inl (kI, 256, .inl (upd (upd sk (32 * d + (ht d)) 0) (32 * d + ((ht d) + 1)) 0))), (b16, .inl (kI, 8, .inl (fun j => nI (va_up (va_up ht d ((ht d) + 1)) d (((ht d) + 1) + 1) j))))] H := hP
            have hD : va_D A [(b22, .inl (kI, 8, .inl (fun j => nI (va_up gg d (gg d + 0) j)))), (b17, .inl (kI, 8, .inl (fun j => nI (va_up pp d (pp d + 1) j)))), (b1, .inl (kI, 24, .inl bal2_3)), (b5, .inl (kI, 500, .inl ka2_4)), (b6, .inl (kI, 500, .inl kN2_5)), (b7, .inl (kI, 500, .inl kv2_6)), (b9, .inl (kI, 192, .inl oB)), (b10, .inl (kI, 4000, .inl oA)), (b11, .inl (kI, 4000, .inl oN)), (b12, .inl (kI, 4000, .inl oV)), (b13, .inl (kI, 8, .inl (fun j => nI (oK j)))), (b14, .inl (kI, 8, .inl (fun j => nI (oL j)))), (m0, .inr (6, [.int f0, .int (nI nA), .ref b1, .ref b2, .ref b3, .ref b4, .ref b5, .ref b6, .ref b7, .int (nI (oK (d + 1))), .ref b8, .int (nI (oL (d + 1))), .ref b9, .ref b10, .ref b11, .ref b12, .ref b13, .ref b14, .int (nI d), .ref b15, .ref b16, .ref b17, .ref b18, .ref b19, .ref b20, .ref b21, .ref b22, .ref b23, .ref b24, .int (nI an), .int f2, .int f3, .int f4, .int f5])), (b15, .inl (kI, 256, .inl (upd (upd sk (32 * d + (ht d)) 0) (32 * d + ((ht d) + 1)) 0))), (b16, .inl (kI, 8, .inl (fun j => nI (va_up (va_up ht d ((ht d) + 1)) d (((ht d) + 1) + 1) j))))] := hD
            exact hret  ((bal2_3, ka2_4, kN2_5, kv2_6)) _ _ _ (⟨hwmSeg_bal2, hwmSeg_ka2, hwmSeg_kN2, hwmSeg_kv2⟩) (hP.sub [12, 2, 3, 4, 5, 6, 7, 8, 9, 10, 11, 0, 14, 1, 13] rfl) (hD.sub [12, 2, 3, 4, 5, 6, 7, 8, 9, 10, 11, 0, 14, 1, 13] (by decide) rfl) hS dMod_end_130
          · have c106 : ho = 0 := (nI_eq (a := ho) (b := 0) (by omega) (by omega)).mp c106
            exfalso; omega
        · have c43 : (d + 1) = 0 := (nI_eq (a := (d + 1)) (b := 0) (by omega) (by omega)).mp c43
          exfalso; omega
      · have c29 : ¬ (ho ≤ 1) := fun z9 => c29 ((nI_leI (a := ho) (b := 1) (by omega) (by omega)).mpr z9)
        refine lv_iconst (v := 0) hx hb dMod_end_32 (by decide) ?_
        refine lv_goto (tgt := 37) hx hb dMod_end_33 (by decide) ?_
        refine lv_istore (lv' := [(4, .int 0), (3, .int 0), (0, .ref m0), (1, .int (nI ho)), (2, .int 0)]) hx hb dMod_end_37 hl (by decide) rfl (fun ls hl => ?_)
        refine lv_aload_n hx hb dMod_end_39 rfl (lv_at hl 2 rfl) ?_
        refine va_get (D := (dC, dI)) (ci := 6) (v := .int (nI (d + 1))) (C := RMod) (T := TMod) (N := 34) hx hb hts (fun w h => List.mem_cons_of_mem _ (layMod w h)) hown hK hP 4 rfl rfl 18 (by decide) (hts (.fieldLink RMod 126 "CallLedgerModel" "depth" "I") (List.mem_cons_of_mem _ gw662)) (fun _ h9 => h9) rfl dMod_end_40 ?_
        refine lv_if_ne (tgt := 68) hx hb dMod_end_43 (by decide) (fun c43 => ?_) (fun c43 => ?_)
        · have c43 : ¬ ((d + 1) = 0) := fun z9 => c43 ((nI_eq (a := (d + 1)) (b := 0) (by omega) (by omega)).mpr z9)
          refine lv_aload_n hx hb dMod_end_68 rfl (lv_at hl 2 rfl) ?_
          refine lv_dup hx hb dMod_end_69 rfl ?_
          refine va_get (D := (dC, dI)) (ci := 6) (v := .int (nI (d + 1))) (C := RMod) (T := TMod) (N := 34) hx hb hts (fun w h => List.mem_cons_of_mem _ (layMod w h)) hown hK hP 4 rfl rfl 18 (by decide) (hts (.fieldLink RMod 126 "CallLedgerModel" "depth" "I") (List.mem_cons_of_mem _ gw662)) (fun _ h9 => h9) rfl dMod_end_70 ?_
          refine lv_iconst (v := 1) hx hb dMod_end_73 (by decide) ?_
          refine lv_isub hx hb dMod_end_74 ?_
          refine x_topi (y := nI d) ((x_pred (by omega)).trans (by rw [Nat.add_sub_cancel])) ?_
          refine va_put (D := (dC, dI)) (ci := 6) (v := .int (nI d)) (ty := .int) (C := RMod) (T := TMod) (N := 34) hx hb hts (fun w h => List.mem_cons_of_mem _ (layMod w h)) tyMod tykMod nmMod hown hK hP hD hS 4 rfl rfl 18 (by decide) (hts (.fieldLink RMod 126 "CallLedgerModel" "depth" "I") (List.mem_cons_of_mem _ gw662)) (fun _ h9 => h9) rfl (by decide +kernel) rfl rfl (Nat.le_of_ble_eq_true rfl) dMod_end_75 (fun H locs hP hD hS => ?_)
          have hP : va_P (dC, dI) xCl [(b22, .inl (kI, 8, .inl (fun j => nI (gg j)))), (b15, .inl (kI, 256, .inl sk)), (b16, .inl (kI, 8, .inl (fun j => nI (ht j)))), (b17, .inl (kI, 8, .inl (fun j => nI (pp j)))), (m0, .inr (6, [.int f0, .int (nI nA), .ref b1, .ref b2, .ref b3, .ref b4, .ref b5, .ref b6, .ref b7, .int (nI (oK (d + 1))), .ref b8, .int (nI (oL (d + 1))), .ref b9, .ref b10, .ref b11, .ref b12, .ref b13, .ref b14, .int (nI d), .ref b15, .ref b16, .ref b17, .ref b18, .ref b19, .ref b20, .ref b21, .ref b22, .ref b23, .ref b24, .int (nI an), .int f2, .int f3, .int f4, .int f5])), (b1, .inl (kI, 24, .inl bal2_3)), (b5, .inl (kI, 500, .inl ka2_4)), (b6, .inl (kI, 500, .inl kN2_5)), (b7, .inl (kI, 500, .inl kv2_6)), (b9, .inl (kI, 192, .inl oB)), (b10, .inl (kI, 4000, .inl oA)), (b11, .inl (kI, 4000, .inl oN)), (b12, .inl (kI, 4000, .inl oV)), (b13, .inl (kI, 8, .inl (fun j => nI (oK j)))), (b14, .inl (kI, 8, .inl (fun j => nI (oL j))))] H := hP
          have hD : va_D A [(b22, .inl (kI, 8, .inl (fun j => nI (gg j)))), (b15, .inl (kI, 256, .inl sk)), (b16, .inl (kI, 8, .inl (fun j => nI (ht j)))), (b17, .inl (kI, 8, .inl (fun j => nI (pp j)))), (m0, .inr (6, [.int f0, .int (nI nA), .ref b1, .ref b2, .ref b3, .ref b4, .ref b5, .ref b6, .ref b7, .int (nI (oK (d + 1))), .ref b8, .int (nI (oL (d + 1))), .ref b9, .ref b10, .ref b11, .ref b12, .ref b13, .ref b14, .int (nI d), .ref b15, .ref b16, .ref b17, .ref b18, .ref b19, .ref b20, .ref b21, .ref b22, .ref b23, .ref b24, .int (nI an), .int f2, .int f3, .int f4, .int f5])), (b1, .inl (kI, 24, .inl bal2_3)), (b5, .inl (kI, 500, .inl ka2_4)), (b6, .inl (kI, 500, .inl kN2_5)), (b7, .inl (kI, 500, .inl kv2_6)), (b9, .inl (kI, 192, .inl oB)), (b10, .inl (kI, 4000, .inl oA)), (b11, .inl (kI, 4000, .inl oN)), (b12, .inl (kI, 4000, .inl oV)), (b13, .inl (kI, 8, .inl (fun j => nI (oK j)))), (b14, .inl (kI, 8, .inl (fun j => nI (oL j))))] := hD
          refine lv_aload_n hx hb dMod_end_78 rfl (lv_at hl 2 rfl) ?_
          refine va_get (D := (dC, dI)) (ci := 6) (v := .ref b22) (C := RMod) (T := TMod) (N := 34) hx hb hts (fun w h => List.mem_cons_of_mem _ (layMod w h)) hown hK hP 4 rfl rfl 26 (by decide) (hts (.fieldLink RMod 74 "CallLedgerModel" "gases" "[I") (List.mem_cons_of_mem _ gw670)) (fun _ h9 => h9) rfl dMod_end_79 ?_
          refine lv_aload_n hx hb dMod_end_82 rfl (lv_at hl 2 rfl) ?_
          refine va_get (D := (dC, dI)) (ci := 6) (v := .int (nI d)) (C := RMod) (T := TMod) (N := 34) hx hb hts (fun w h => List.mem_cons_of_mem _ (layMod w h)) hown hK hP 4 rfl rfl 18 (by decide) (hts (.fieldLink RMod 126 "CallLedgerModel" "depth" "I") (List.mem_cons_of_mem _ gw662)) (fun _ h9 => h9) rfl dMod_end_83 ?_
          refine lv_aload_n hx hb dMod_end_86 rfl (lv_at hl 2 rfl) ?_
          refine va_get (D := (dC, dI)) (ci := 6) (v := .ref b22) (C := RMod) (T := TMod) (N := 34) hx hb hts (fun w h => List.mem_cons_of_mem _ (layMod w h)) hown hK hP 4 rfl rfl 26 (by decide) (hts (.fieldLink RMod 74 "CallLedgerModel" "gases" "[I") (List.mem_cons_of_mem _ gw670)) (fun _ h9 => h9) rfl dMod_end_87 ?_
          refine lv_aload_n hx hb dMod_end_90 rfl (lv_at hl 2 rfl) ?_
          refine va_get (D := (dC, dI)) (ci := 6) (v := .int (nI d)) (C := RMod) (T := TMod) (N := 34) hx hb hts (fun w h => List.mem_cons_of_mem _ (layMod w h)) hown hK hP 4 rfl rfl 18 (by decide) (hts (.fieldLink RMod 126 "CallLedgerModel" "depth" "I") (List.mem_cons_of_mem _ gw662)) (fun _ h9 => h9) rfl dMod_end_91 ?_
          refine x_iald (j := d) hx hb hK hP 0 0 rfl rfl rfl (by omega) (by omega) dMod_end_94 ?_
          refine lv_iload_n hx hb dMod_end_95 rfl (lv_at hl 1 rfl) ?_
          refine lv_iadd hx hb dMod_end_96 ?_
          refine x_topi (y := nI (gg d + 0)) (nI_add _ 0) ?_
          refine x_iast (j := d) hx hb hK hP hD hS 0 0 rfl rfl rfl (by omega) (by omega) dMod_end_97 (fun H locs hP hD hS => ?_)
          have hP : va_P (dC, dI) xCl [(b22, .inl (kI, 8, .inl (upd (fun j => nI (gg j)) d (nI (gg d + 0))))), (b15, .inl (kI, 256, .inl sk)), (b16, .inl (kI, 8, .inl (fun j => nI (ht j)))), (b17, .inl (kI, 8, .inl (fun j => nI (pp j)))), (m0, .inr (6, [.int f0, .int (nI nA), .ref b1, .ref b2, .ref b3, .ref b4, .ref b5, .ref b6, .ref b7, .int (nI (oK (d + 1))), .ref b8, .int (nI (oL (d + 1))), .ref b9, .ref b10, .ref b11, .ref b12, .ref b13, .ref b14, .int (nI d), .ref b15, .ref b16, .ref b17, .ref b18, .ref b19, .ref b20, .ref b21, .ref b22, .ref b23, .ref b24, .int (nI an), .int f2, .int f3, .int f4, .int f5])), (b1, .inl (kI, 24, .inl bal2_3)), (b5, .inl (kI, 500, .inl ka2_4)), (b6, .inl (kI, 500, .inl kN2_5)), (b7, .inl (kI, 500, .inl kv2_6)), (b9, .inl (kI, 192, .inl oB)), (b10, .inl (kI, 4000, .inl oA)), (b11, .inl (kI, 4000, .inl oN)), (b12, .inl (kI, 4000, .inl oV)), (b13, .inl (kI, 8, .inl (fun j => nI (oK j)))), (b14, .inl (kI, 8, .inl (fun j => nI (oL j))))] H := hP
          have hD : va_D A [(b22, .inl (kI, 8, .inl (upd (fun j => nI (gg j)) d (nI (gg d + 0))))), (b15, .inl (kI, 256, .inl sk)), (b16, .inl (kI, 8, .inl (fun j => nI (ht j)))), (b17, .inl (kI, 8, .inl (fun j => nI (pp j)))), (m0, .inr (6, [.int f0, .int (nI nA), .ref b1, .ref b2, .ref b3, .ref b4, .ref b5, .ref b6, .ref b7, .int (nI (oK (d + 1))), .ref b8, .int (nI (oL (d + 1))), .ref b9, .ref b10, .ref b11, .ref b12, .ref b13, .ref b14, .int (nI d), .ref b15, .ref b16, .ref b17, .ref b18, .ref b19, .ref b20, .ref b21, .ref b22, .ref b23, .ref b24, .int (nI an), .int f2, .int f3, .int f4, .int f5])), (b1, .inl (kI, 24, .inl bal2_3)), (b5, .inl (kI, 500, .inl ka2_4)), (b6, .inl (kI, 500, .inl kN2_5)), (b7, .inl (kI, 500, .inl kv2_6)), (b9, .inl (kI, 192, .inl oB)), (b10, .inl (kI, 4000, .inl oA)), (b11, .inl (kI, 4000, .inl oN)), (b12, .inl (kI, 4000, .inl oV)), (b13, .inl (kI, 8, .inl (fun j => nI (oK j)))), (b14, .inl (kI, 8, .inl (fun j => nI (oL j))))] := hD
          rw [(show upd (fun j => nI (gg j)) d (nI (gg d + 0)) = fun j => nI (va_up gg d (gg d + 0) j) from x_updL gg d (gg d + 0))] at hP hD
          have hP : va_P (dC, dI) xCl [(b22, .inl (kI, 8, .inl (fun j => nI (va_up gg d (gg d + 0) j)))), (b15, .inl (kI, 256, .inl sk)), (b16, .inl (kI, 8, .inl (fun j => nI (ht j)))), (b17, .inl (kI, 8, .inl (fun j => nI (pp j)))), (m0, .inr (6, [.int f0, .int (nI nA), .ref b1, .ref b2, .ref b3, .ref b4, .ref b5, .ref b6, .ref b7, .int (nI (oK (d + 1))), .ref b8, .int (nI (oL (d + 1))), .ref b9, .ref b10, .ref b11, .ref b12, .ref b13, .ref b14, .int (nI d), .ref b15, .ref b16, .ref b17, .ref b18, .ref b19, .ref b20, .ref b21, .ref b22, .ref b23, .ref b24, .int (nI an), .int f2, .int f3, .int f4, .int f5])), (b1, .inl (kI, 24, .inl bal2_3)), (b5, .inl (kI, 500, .inl ka2_4)), (b6, .inl (kI, 500, .inl kN2_5)), (b7, .inl (kI, 500, .inl kv2_6)), (b9, .inl (kI, 192, .inl oB)), (b10, .inl (kI, 4000, .inl oA)), (b11, .inl (kI, 4000, .inl oN)), (b12, .inl (kI, 4000, .inl oV)), (b13, .inl (kI, 8, .inl (fun j => nI (oK j)))), (b14, .inl (kI, 8, .inl (fun j => nI (oL j))))] H := hP
          have hD : va_D A [(b22, .inl (kI, 8, .inl (fun j => nI (va_up gg d (gg d + 0) j)))), (b15, .inl (kI, 256, .inl sk)), (b16, .inl (kI, 8, .inl (fun j => nI (ht j)))), (b17, .inl (kI, 8, .inl (fun j => nI (pp j)))), (m0, .inr (6, [.int f0, .int (nI nA), .ref b1, .ref b2, .ref b3, .ref b4, .ref b5, .ref b6, .ref b7, .int (nI (oK (d + 1))), .ref b8, .int (nI (oL (d + 1))), .ref b9, .ref b10, .ref b11, .ref b12, .ref b13, .ref b14, .int (nI d), .ref b15, .ref b16, .ref b17, .ref b18, .ref b19, .ref b20, .ref b21, .ref b22, .ref b23, .ref b24, .int (nI an), .int f2, .int f3, .int f4, .int f5])), (b1, .inl (kI, 24, .inl bal2_3)), (b5, .inl (kI, 500, .inl ka2_4)), (b6, .inl (kI, 500, .inl kN2_5)), (b7, .inl (kI, 500, .inl kv2_6)), (b9, .inl (kI, 192, .inl oB)), (b10, .inl (kI, 4000, .inl oA)), (b11, .inl (kI, 4000, .inl oN)), (b12, .inl (kI, 4000, .inl oV)), (b13, .inl (kI, 8, .inl (fun j => nI (oK j)))), (b14, .inl (kI, 8, .inl (fun j => nI (oL j))))] := hD
          refine lv_aload_n hx hb dMod_end_98 rfl (lv_at hl 2 rfl) ?_
          refine lv_iload hx hb dMod_end_99 (lv_at hl 0 rfl) ?_
          refine XM.callVv (As := [.int 0]) (rest := []) (wr := [(b22, .inl (kI, 8, .inl (fun j => nI (va_up gg d (gg d + 0) j)))), (b17, .inl (kI, 8, .inl (fun j => nI (pp j)))), (b1, .inl (kI, 24, .inl bal2_3)), (b5, .inl (kI, 500, .inl ka2_4)), (b6, .inl (kI, 500, .inl kN2_5)), (b7, .inl (kI, 500, .inl kv2_6)), (b9, .inl (kI, 192, .inl oB)), (b10, .inl (kI, 4000, .inl oA)), (b11, .inl (kI, 4000, .inl oN)), (b12, .inl (kI, 4000, .inl oV)), (b13, .inl (kI, 8, .inl (fun j => nI (oK j)))), (b14, .inl (kI, 8, .inl (fun j => nI (oL j))))]) stX_ok ⟨hx, hb, hml, hown, hts⟩ (kM_push l dC dI kI kJ kZ m0 b1 b2 b3 b4 b5 b6 b7 b8 b9 b10 b11 b12 b13 b14 b15 b16 b17 b18 b19 b20 b21 b22 b23 b24 nA (oK (d + 1)) (oL (d + 1)) an f0 f2 f3 f4 f5 d sk ht (ht d) 0 (by first | assumption | omega) (by first | assumption | rfl | exact va_up_at) (by first | assumption | omega)) (cwV 1 hts (x_gV gw836 gw838 gw26 gw43 gw839) rfl rfl rfl (by decide +kernel) ⟨Nat.le_of_ble_eq_true rfl, Nat.le_of_ble_eq_true rfl⟩) hK hP hD hS hA hX [4, 1, 2] [0, 3, 5, 6, 7, 8, 9, 10, 11, 12, 13, 14] rfl rfl (by decide) (by decide) (by decide) rfl rfl rfl rfl hl.1 (Nat.le_of_ble_eq_true rfl) dMod_end_101 ⟨Nat.le_of_ble_eq_true rfl, Nat.le_of_ble_eq_true rfl⟩ (fun u_11 H locs hw hP hD hS => ?_)
          have hP : va_P (dC, dI) xCl [(b22, .inl (kI, 8, .inl (fun j => nI (va_up gg d (gg d + 0) j)))), (b17, .inl (kI, 8, .inl (fun j => nI (pp j)))), (b1, .inl (kI, 24, .inl bal2_3)), (b5, .inl (kI, 500, .inl ka2_4)), (b6, .inl (kI, 500, .inl kN2_5)), (b7, .inl (kI, 500, .inl kv2_6)), (b9, .inl (kI, 192, .inl oB)), (b10, .inl (kI, 4000, .inl oA)), (b11, .inl (kI, 4000, .inl oN)), (b12, .inl (kI, 4000, .inl oV)), (b13, .inl (kI, 8, .inl (fun j => nI (oK j)))), (b14, .inl (kI, 8, .inl (fun j => nI (oL j)))), (m0, .inr (6, [.int f0, .int (nI nA), .ref b1, .ref b2, .ref b3, .ref b4, .ref b5, .ref b6, .ref b7, .int (nI (oK (d + 1))), .ref b8, .int (nI (oL (d + 1))), .ref b9, .ref b10, .ref b11, .ref b12, .ref b13, .ref b14, .int (nI d), .ref b15, .ref b16, .ref b17, .ref b18, .ref b19, .ref b20, .ref b21, .ref b22, .ref b23, .ref b24, .int (nI an), .int f2, .int f3, .int f4, .int f5])), (b15, .inl (kI, 256, .inl (upd sk (32 * d + (ht d)) 0))), (b16, .inl (kI, 8, .inl (fun j => nI (va_up ht d ((ht d) + 1) j))))] H := hP
          have hD : va_D A [(b22, .inl (kI, 8, .inl (fun j => nI (va_up gg d (gg d + 0) j)))), (b17, .inl (kI, 8, .inl (fun j => nI (pp j)))), (b1, .inl (kI, 24, .inl bal2_3)), (b5, .inl (kI, 500, .inl ka2_4)), (b6, .inl (kI, 500, .inl kN2_5)), (b7, .inl (kI, 500, .inl kv2_6)), (b9, .inl (kI, 192, .inl oB)), (b10, .inl (kI, 4000, .inl oA)), (b11, .inl (kI, 4000, .inl oN)), (b12, .inl (kI, 4000, .inl oV)), (b13, .inl (kI, 8, .inl (fun j => nI (oK j)))), (b14, .inl (kI, 8, .inl (fun j => nI (oL j)))), (m0, .inr (6, [.int f0, .int (nI nA), .ref b1, .ref b2, .ref b3, .ref b4, .ref b5, .ref b6, .ref b7, .int (nI (oK (d + 1))), .ref b8, .int (nI (oL (d + 1))), .ref b9, .ref b10, .ref b11, .ref b12, .ref b13, .ref b14, .int (nI d), .ref b15, .ref b16, .ref b17, .ref b18, .ref b19, .ref b20, .ref b21, .ref b22, .ref b23, .ref b24, .int (nI an), .int f2, .int f3, .int f4, .int f5])), (b15, .inl (kI, 256, .inl (upd sk (32 * d + (ht d)) 0))), (b16, .inl (kI, 8, .inl (fun j => nI (va_up ht d ((ht d) + 1) j))))] := hD
          refine lv_aload_n hx hb dMod_end_104 rfl (lv_at hl 2 rfl) ?_
          refine lv_iload_n hx hb dMod_end_105 rfl (lv_at hl 3 rfl) ?_
          refine lv_if_ne (tgt := 113) hx hb dMod_end_106 (by decide) (fun c106 => ?_) (fun c106 => ?_)
          · have c106 : ¬ (ho = 0) := fun z9 => c106 ((nI_eq (a := ho) (b := 0) (by omega) (by omega)).mpr z9)
            refine lv_iconst (v := 0) hx hb dMod_end_113 (by decide) ?_
            refine XM.callVv (As := [.int 0]) (rest := []) (wr := [(b22, .inl (kI, 8, .inl (fun j => nI (va_up gg d (gg d + 0) j)))), (b17, .inl (kI, 8, .inl (fun j => nI (pp j)))), (b1, .inl (kI, 24, .inl bal2_3)), (b5, .inl (kI, 500, .inl ka2_4)), (b6, .inl (kI, 500, .inl kN2_5)), (b7, .inl (kI, 500, .inl kv2_6)), (b9, .inl (kI, 192, .inl oB)), (b10, .inl (kI, 4000, .inl oA)), (b11, .inl (kI, 4000, .inl oN)), (b12, .inl (kI, 4000, .inl oV)), (b13, .inl (kI, 8, .inl (fun j => nI (oK j)))), (b14, .inl (kI, 8, .inl (fun j => nI (oL j))))]) stX_ok ⟨hx, hb, hml, hown, hts⟩ (kM_push l dC dI kI kJ kZ m0 b1 b2 b3 b4 b5 b6 b7 b8 b9 b10 b11 b12 b13 b14 b15 b16 b17 b18 b19 b20 b21 b22 b23 b24 nA (oK (d + 1)) (oL (d + 1)) an f0 f2 f3 f4 f5 d (upd sk (32 * d + (ht d)) 0) (va_up ht d ((ht d) + 1)) ((ht d) + 1) 0 (by first | assumption | omega) (by first | assumption | rfl | exact va_up_at) (by first | assumption | omega)) (cwV 1 hts (x_gV gw836 gw838 gw26 gw43 gw839) rfl rfl rfl (by decide +kernel) ⟨Nat.le_of_ble_eq_true rfl, Nat.le_of_ble_eq_true rfl⟩) hK hP hD hS hA hX [12, 13, 14] [0, 1, 2, 3, 4, 5, 6, 7, 8, 9, 10, 11] rfl rfl (by decide) (by decide) (by decide) rfl rfl rfl rfl hl.1 (Nat.le_of_ble_eq_true rfl) dMod_end_114 ⟨Nat.le_of_ble_eq_true rfl, Nat.le_of_ble_eq_true rfl⟩ (fun u_13 H locs hw hP hD hS => ?_)
            have hP : va_P (dC, dI) xCl [(b22, .inl (kI, 8, .inl (fun j => nI (va_up gg d (gg d + 0) j)))), (b17, .inl (kI, 8, .inl (fun j => nI (pp j)))), (b1, .inl (kI, 24, .inl bal2_3)), (b5, .inl (kI, 500, .inl ka2_4)), (b6, .inl (kI, 500, .inl kN2_5)), (b7, .inl (kI, 500, .inl kv2_6)), (b9, .inl (kI, 192, .inl oB)), (b10, .inl (kI, 4000, .inl oA)), (b11, .inl (kI, 4000, .inl oN)), (b12, .inl (kI, 4000, .inl oV)), (b13, .inl (kI, 8, .inl (fun j => nI (oK j)))), (b14, .inl (kI, 8, .inl (fun j => nI (oL j)))), (m0, .inr (6, [.int f0, .int (nI nA), .ref b1, .ref b2, .ref b3, .ref b4, .ref b5, .ref b6, .ref b7, .int (nI (oK (d + 1))), .ref b8, .int (nI (oL (d + 1))), .ref b9, .ref b10, .ref b11, .ref b12, .ref b13, .ref b14, .int (nI d), .ref b15, .ref b16, .ref b17, .ref b18, .ref b19, .ref b20, .ref b21, .ref b22, .ref b23, .ref b24, .int (nI an), .int f2, .int f3, .int f4, .int f5])), (b15, .inl (kI, 256, .inl (upd (upd sk (32 * d + (ht d)) 0) (32 * d + ((ht d) + 1)) 0))), (b16, .inl (kI, 8, .inl (fun j => nI (va_up (va_up ht d ((ht d) + 1)) d (((ht d) + 1) + 1) j))))] H := hP
            have hD : va_D A [(b22, .inl (kI, 8, .inl (fun j => nI (va_up gg d (gg d + 0) j)))), (b17, .inl (kI, 8, .inl (fun j => nI (pp j)))), (b1, .inl (kI, 24, .inl bal2_3)), (b5, .inl (kI, 500, .inl ka2_4)), (b6, .inl (kI, 500, .inl kN2_5)), (b7, .inl (kI, 500, .inl kv2_6)), (b9, .inl (kI, 192, .inl oB)), (b10, .inl (kI, 4000, .inl oA)), (b11, .inl (kI, 4000, .inl oN)), (b12, .inl (kI, 4000, .inl oV)), (b13, .inl (kI, 8, .inl (fun j => nI (oK j)))), (b14, .inl (kI, 8, .inl (fun j => nI (oL j)))), (m0, .inr (6, [.int f0, .int (nI nA), .ref b1, .ref b2, .ref b3, .ref b4, .ref b5, .ref b6, .ref b7, .int (nI (oK (d + 1))), .ref b8, .int (nI (oL (d + 1))), .ref b9, .ref b10, .ref b11, .ref b12, .ref b13, .ref b14, .int (nI d), .ref b15, .ref b16, .ref b17, .ref b18, .ref b19, .ref b20, .ref b21, .ref b22, .ref b23, .ref b24, .int (nI an), .int f2, .int f3, .int f4, .int f5])), (b15, .inl (kI, 256, .inl (upd (upd sk (32 * d + (ht d)) 0) (32 * d + ((ht d) + 1)) 0))), (b16, .inl (kI, 8, .inl (fun j => nI (va_up (va_up ht d ((ht d) + 1)) d (((ht d) + 1) + 1) j))))] := hD
            refine lv_aload_n hx hb dMod_end_117 rfl (lv_at hl 2 rfl) ?_
            refine va_get (D := (dC, dI)) (ci := 6) (v := .ref b17) (C := RMod) (T := TMod) (N := 34) hx hb hts (fun w h => List.mem_cons_of_mem _ (layMod w h)) hown hK hP 12 rfl rfl 21 (by decide) (hts (.fieldLink RMod 59 "CallLedgerModel" "places" "[I") (List.mem_cons_of_mem _ gw665)) (fun _ h9 => h9) rfl dMod_end_118 ?_
            refine lv_aload_n hx hb dMod_end_121 rfl (lv_at hl 2 rfl) ?_
            refine va_get (D := (dC, dI)) (ci := 6) (v := .int (nI d)) (C := RMod) (T := TMod) (N := 34) hx hb hts (fun w h => List.mem_cons_of_mem _ (layMod w h)) hown hK hP 12 rfl rfl 18 (by decide) (hts (.fieldLink RMod 126 "CallLedgerModel" "depth" "I") (List.mem_cons_of_mem _ gw662)) (fun _ h9 => h9) rfl dMod_end_122 ?_
            refine lv_dup2_11 hx hb dMod_end_125 rfl rfl ?_
            refine x_iald (j := d) hx hb hK hP 1 0 rfl rfl rfl (by omega) (by omega) dMod_end_126 ?_
            refine lv_iconst (v := 1) hx hb dMod_end_127 (by decide) ?_
            refine lv_iadd hx hb dMod_end_128 ?_
            refine x_topi (y := nI (pp d + 1)) (nI_1 _) ?_
            refine x_iast (j := d) hx hb hK hP hD hS 1 0 rfl rfl rfl (by omega) (by omega) dMod_end_129 (fun H locs hP hD hS => ?_)
            have hP : va_P (dC, dI) xCl [(b22, .inl (kI, 8, .inl (fun j => nI (va_up gg d (gg d + 0) j)))), (b17, .inl (kI, 8, .inl (upd (fun j => nI (pp j)) d (nI (pp d + 1))))), (b1, .inl (kI, 24, .inl bal2_3)), (b5, .inl (kI, 500, .inl ka2_4)), (b6, .inl (kI, 500, .inl kN2_5)), (b7, .inl (kI, 500, .inl kv2_6)), (b9, .inl (kI, 192, .inl oB)), (b10, .inl (kI, 4000, .inl oA)), (b11, .inl (kI, 4000, .inl oN)), (b12, .inl (kI, 4000, .inl oV)), (b13, .inl (kI, 8, .inl (fun j => nI (oK j)))), (b14, .inl (kI, 8, .inl (fun j => nI (oL j)))), (m0, .inr (6, [.int f0, .int (nI nA), .ref b1, .ref b2, .ref b3, .ref b4, .ref b5, .ref b6, .ref b7, .int (nI (oK (d + 1))), .ref b8, .int (nI (oL (d + 1))), .ref b9, .ref b10, .ref b11, .ref b12, .ref b13, .ref b14, .int (nI d), .ref b15, .ref b16, .ref b17, .ref b18, .ref b19, .ref b20, .ref b21, .ref b22, .ref b23, .ref b24, .int (nI an), .int f2, .int f3, .int f4, .int f5])), (b15, .inl (kI, 256, .inl (upd (upd sk (32 * d + (ht d)) 0) (32 * d + ((ht d) + 1)) 0))), (b16, .inl (kI, 8, .inl (fun j => nI (va_up (va_up ht d ((ht d) + 1)) d (((ht d) + 1) + 1) j))))] H := hP
            have hD : va_D A [(b22, .inl (kI, 8, .inl (fun j => nI (va_up gg d (gg d + 0) j)))), (b17, .inl (kI, 8, .inl (upd (fun j => nI (pp j)) d (nI (pp d + 1))))), (b1, .inl (kI, 24, .inl bal2_3)), (b5, .inl (kI, 500, .inl ka2_4)), (b6, .inl (kI, 500, .inl kN2_5)), (b7, .inl (kI, 500, .inl kv2_6)), (b9, .inl (kI, 192, .inl oB)), (b10, .inl (kI, 4000, .inl oA)), (b11, .inl (kI, 4000, .inl oN)), (b12, .inl (kI, 4000, .inl oV)), (b13, .inl (kI, 8, .inl (fun j => nI (oK j)))), (b14, .inl (kI, 8, .inl (fun j => nI (oL j)))), (m0, .inr (6, [.int f0, .int (nI nA), .ref b1, .ref b2, .ref b3, .ref b4, .ref b5, .ref b6, .ref b7, .int (nI (oK (d + 1))), .ref b8, .int (nI (oL (d + 1))), .ref b9, .ref b10, .ref b11, .ref b12, .ref b13, .ref b14, .int (nI d), .ref b15, .ref b16, .ref b17, .ref b18, .ref b19, .ref b20, .ref b21, .ref b22, .ref b23, .ref b24, .int (nI an), .int f2, .int f3, .int f4, .int f5])), (b15, .inl (kI, 256, .inl (upd (upd sk (32 * d + (ht d)) 0) (32 * d + ((ht d) + 1)) 0))), (b16, .inl (kI, 8, .inl (fun j => nI (va_up (va_up ht d ((ht d) + 1)) d (((ht d) + 1) + 1) j))))] := hD
            rw [(show upd (fun j => nI (pp j)) d (nI (pp d + 1)) = fun j => nI (va_up pp d (pp d + 1) j) from x_updL pp d (pp d + 1))] at hP hD
            have hP : va_P (dC, dI) xCl [(b22, .inl (kI, 8, .inl (fun j => nI (va_up gg d (gg d + 0) j)))), (b17, .inl (kI, 8, .inl (fun j => nI (va_up pp d (pp d + 1) j)))), (b1, .inl (kI, 24, .inl bal2_3)), (b5, .inl (kI, 500, .inl ka2_4)), (b6, .inl (kI, 500, .inl kN2_5)), (b7, .inl (kI, 500, .inl kv2_6)), (b9, .inl (kI, 192, .inl oB)), (b10, .inl (kI, 4000, .inl oA)), (b11, .inl (kI, 4000, .inl oN)), (b12, .inl (kI, 4000, .inl oV)), (b13, .inl (kI, 8, .inl (fun j => nI (oK j)))), (b14, .inl (kI, 8, .inl (fun j => nI (oL j)))), (m0, .inr (6, [.int f0, .int (nI nA), .ref b1, .ref b2, .ref b3, .ref b4, .ref b5, .ref b6, .ref b7, .int (nI (oK (d + 1))), .ref b8, .int (nI (oL (d + 1))), .ref b9, .ref b10, .ref b11, .ref b12, .ref b13, .ref b14, .int (nI d), .ref b15, .ref b16, .ref b17, .ref b18, .ref b19, .ref b20, .ref b21, .ref b22, .ref b23, .ref b24, .int (nI an), .int f2, .int f3, .int f4, .int f5])), (b15, .inl (kI, 256, .inl (upd (upd sk (32 * d + (ht d)) 0) (32 * d + ((ht d) + 1)) 0))), (b16, .inl (kI, 8, .inl (fun j => nI (va_up (va_up ht d ((ht d) + 1)) d (((ht d) + 1) + 1) j))))] H := hP
            have hD : va_D A [(b22, .inl (kI, 8, .inl (fun j => nI (va_up gg d (gg d + 0) j)))), (b17, .inl (kI, 8, .inl (fun j => nI (va_up pp d (pp d + 1) j)))), (b1, .inl (kI, 24, .inl bal2_3)), (b5, .inl (kI, 500, .inl ka2_4)), (b6, .inl (kI, 500, .inl kN2_5)), (b7, .inl (kI, 500, .inl kv2_6)), (b9, .inl (kI, 192, .inl oB)), (b10, .inl (kI, 4000, .inl oA)), (b11, .inl (kI, 4000, .inl oN)), (b12, .inl (kI, 4000, .inl oV)), (b13, .inl (kI, 8, .inl (fun j => nI (oK j)))), (b14, .inl (kI, 8, .inl (fun j => nI (oL j)))), (m0, .inr (6, [.int f0, .int (nI nA), .ref b1, .ref b2, .ref b3, .ref b4, .ref b5, .ref b6, .ref b7, .int (nI (oK (d + 1))), .ref b8, .int (nI (oL (d + 1))), .ref b9, .ref b10, .ref b11, .ref b12, .ref b13, .ref b14, .int (nI d), .ref b15, .ref b16, .ref b17, .ref b18, .ref b19, .ref b20, .ref b21, .ref b22, .ref b23, .ref b24, .int (nI an), .int f2, .int f3, .int f4, .int f5])), (b15, .inl (kI, 256, .inl (upd (upd sk (32 * d + (ht d)) 0) (32 * d + ((ht d) + 1)) 0))), (b16, .inl (kI, 8, .inl (fun j => nI (va_up (va_up ht d ((ht d) + 1)) d (((ht d) + 1) + 1) j))))] := hD
            exact hret  ((bal2_3, ka2_4, kN2_5, kv2_6)) _ _ _ (⟨hwmSeg_bal2, hwmSeg_ka2, hwmSeg_kN2, hwmSeg_kv2⟩) (hP.sub [12, 2, 3, 4, 5, 6, 7, 8, 9, 10, 11, 0, 14, 1, 13] rfl) (hD.sub [12, 2, 3, 4, 5, 6, 7, 8, 9, 10, 11, 0, 14, 1, 13] (by decide) rfl) hS dMod_end_130
          · have c106 : ho = 0 := (nI_eq (a := ho) (b := 0) (by omega) (by omega)).mp c106
            exfalso; omega
        · have c43 : (d + 1) = 0 := (nI_eq (a := (d + 1)) (b := 0) (by omega) (by omega)).mp c43
          exfalso; omega

set_option maxHeartbeats 4000000 in
set_option maxRecDepth 100000 in
theorem kM_priceOf (l : Launch) (dC : Nat → ClassId) (dI : Nat → Nat → Nat) (kI kJ kZ : ClassId) (op : Nat) (hop : op < 30) (h19 : op ≠ 19) (h27 : op ≠ 27) :
    XM stX l yMod_priceOf wMod_priceOf { frames := 0, cells := 0, slots := 0, locals := 0 } (dC, dI) xCl (x_T kI kJ kZ) [] [.int (nI op)] 0 0 x_eI (fun (r : Int32) (u : Unit) => r = nI (xPr op)) (fun (u : Unit) => []) := by
  refine XM.ofI (cc := cMod_priceOf) (maxL := 1) (by decide) rfl (Nat.le_of_ble_eq_true rfl) ?_
  intro p e s m below meth c A Q hx hb hr hml hown hts hlocks hin hA hK hP hD hX hS ls hl hret
  have hl : lv_has ls 1 [(0, .int (nI op))] := hl
  rcases (show op = 0 ∨ op = 1 ∨ op = 2 ∨ op = 3 ∨ op = 4 ∨ op = 5 ∨ op = 6 ∨ op = 7 ∨ op = 8 ∨ op = 9 ∨ op = 10 ∨ op = 11 ∨ op = 12 ∨ op = 13 ∨ op = 14 ∨ op = 15 ∨ op = 16 ∨ op = 17 ∨ op = 18 ∨ op = 20 ∨ op = 21 ∨ op = 22 ∨ op = 23 ∨ op = 24 ∨ op = 25 ∨ op = 26 ∨ op = 28 ∨ op = 29 by omega) with rfl | rfl | rfl | rfl | rfl | rfl | rfl | rfl | rfl | rfl | rfl | rfl | rfl | rfl | rfl | rfl | rfl | rfl | rfl | rfl | rfl | rfl | rfl | rfl | rfl | rfl | rfl | rfl
  · refine lv_iload_n hx hb dMod_priceOf_0 rfl (lv_at hl 0 rfl) ?_
    refine lv_tableOut (tgt := 104) hx hb dMod_priceOf_1 (by decide) (by decide) ?_
    refine lv_iconst (v := 1) hx hb dMod_priceOf_104 (by decide) ?_
    exact hret 1 (()) _ _ _ (rfl) (hP.sub [] rfl) (hD.sub [] (by decide) rfl) hS dMod_priceOf_105
  · refine lv_iload_n hx hb dMod_priceOf_0 rfl (lv_at hl 0 rfl) ?_
    refine lv_tableOut (tgt := 104) hx hb dMod_priceOf_1 (by decide) (by decide) ?_
    refine lv_iconst (v := 1) hx hb dMod_priceOf_104 (by decide) ?_
    exact hret 1 (()) _ _ _ (rfl) (hP.sub [] rfl) (hD.sub [] (by decide) rfl) hS dMod_priceOf_105
  · refine lv_iload_n hx hb dMod_priceOf_0 rfl (lv_at hl 0 rfl) ?_
    refine lv_tableOut (tgt := 104) hx hb dMod_priceOf_1 (by decide) (by decide) ?_
    refine lv_iconst (v := 1) hx hb dMod_priceOf_104 (by decide) ?_
    exact hret 1 (()) _ _ _ (rfl) (hP.sub [] rfl) (hD.sub [] (by decide) rfl) hS dMod_priceOf_105
  · refine lv_iload_n hx hb dMod_priceOf_0 rfl (lv_at hl 0 rfl) ?_
    refine lv_tableOut (tgt := 104) hx hb dMod_priceOf_1 (by decide) (by decide) ?_
    refine lv_iconst (v := 1) hx hb dMod_priceOf_104 (by decide) ?_
    exact hret 1 (()) _ _ _ (rfl) (hP.sub [] rfl) (hD.sub [] (by decide) rfl) hS dMod_priceOf_105
  · refine lv_iload_n hx hb dMod_priceOf_0 rfl (lv_at hl 0 rfl) ?_
    refine lv_tableOut (tgt := 104) hx hb dMod_priceOf_1 (by decide) (by decide) ?_
    refine lv_iconst (v := 1) hx hb dMod_priceOf_104 (by decide) ?_
    exact hret 1 (()) _ _ _ (rfl) (hP.sub [] rfl) (hD.sub [] (by decide) rfl) hS dMod_priceOf_105
  · refine lv_iload_n hx hb dMod_priceOf_0 rfl (lv_at hl 0 rfl) ?_
    refine lv_tableOut (tgt := 104) hx hb dMod_priceOf_1 (by decide) (by decide) ?_
    refine lv_iconst (v := 1) hx hb dMod_priceOf_104 (by decide) ?_
    exact hret 1 (()) _ _ _ (rfl) (hP.sub [] rfl) (hD.sub [] (by decide) rfl) hS dMod_priceOf_105
  · refine lv_iload_n hx hb dMod_priceOf_0 rfl (lv_at hl 0 rfl) ?_
    refine lv_tableOut (tgt := 104) hx hb dMod_priceOf_1 (by decide) (by decide) ?_
    refine lv_iconst (v := 1) hx hb dMod_priceOf_104 (by decide) ?_
    exact hret 1 (()) _ _ _ (rfl) (hP.sub [] rfl) (hD.sub [] (by decide) rfl) hS dMod_priceOf_105
  · refine lv_iload_n hx hb dMod_priceOf_0 rfl (lv_at hl 0 rfl) ?_
    refine lv_tableIn (tgt := 92) (off := 91) hx hb dMod_priceOf_1 (by decide) (by decide) (by decide) (by decide) ?_
    refine lv_iconst (v := 2) hx hb dMod_priceOf_92 (by decide) ?_
    exact hret 2 (()) _ _ _ (rfl) (hP.sub [] rfl) (hD.sub [] (by decide) rfl) hS dMod_priceOf_93
  · refine lv_iload_n hx hb dMod_priceOf_0 rfl (lv_at hl 0 rfl) ?_
    refine lv_tableIn (tgt := 94) (off := 93) hx hb dMod_priceOf_1 (by decide) (by decide) (by decide) (by decide) ?_
    refine lv_iconst (v := 3) hx hb dMod_priceOf_94 (by decide) ?_
    exact hret 3 (()) _ _ _ (rfl) (hP.sub [] rfl) (hD.sub [] (by decide) rfl) hS dMod_priceOf_95
  · refine lv_iload_n hx hb dMod_priceOf_0 rfl (lv_at hl 0 rfl) ?_
    refine lv_tableIn (tgt := 94) (off := 93) hx hb dMod_priceOf_1 (by decide) (by decide) (by decide) (by decide) ?_
    refine lv_iconst (v := 3) hx hb dMod_priceOf_94 (by decide) ?_
    exact hret 3 (()) _ _ _ (rfl) (hP.sub [] rfl) (hD.sub [] (by decide) rfl) hS dMod_priceOf_95
  · refine lv_iload_n hx hb dMod_priceOf_0 rfl (lv_at hl 0 rfl) ?_
    refine lv_tableIn (tgt := 104) (off := 103) hx hb dMod_priceOf_1 (by decide) (by decide) (by decide) (by decide) ?_
    refine lv_iconst (v := 1) hx hb dMod_priceOf_104 (by decide) ?_
    exact hret 1 (()) _ _ _ (rfl) (hP.sub [] rfl) (hD.sub [] (by decide) rfl) hS dMod_priceOf_105
  · refine lv_iload_n hx hb dMod_priceOf_0 rfl (lv_at hl 0 rfl) ?_
    refine lv_tableIn (tgt := 104) (off := 103) hx hb dMod_priceOf_1 (by decide) (by decide) (by decide) (by decide) ?_
    refine lv_iconst (v := 1) hx hb dMod_priceOf_104 (by decide) ?_
    exact hret 1 (()) _ _ _ (rfl) (hP.sub [] rfl) (hD.sub [] (by decide) rfl) hS dMod_priceOf_105
  · refine lv_iload_n hx hb dMod_priceOf_0 rfl (lv_at hl 0 rfl) ?_
    refine lv_tableIn (tgt := 104) (off := 103) hx hb dMod_priceOf_1 (by decide) (by decide) (by decide) (by decide) ?_
    refine lv_iconst (v := 1) hx hb dMod_priceOf_104 (by decide) ?_
    exact hret 1 (()) _ _ _ (rfl) (hP.sub [] rfl) (hD.sub [] (by decide) rfl) hS dMod_priceOf_105
  · refine lv_iload_n hx hb dMod_priceOf_0 rfl (lv_at hl 0 rfl) ?_
    refine lv_tableIn (tgt := 104) (off := 103) hx hb dMod_priceOf_1 (by decide) (by decide) (by decide) (by decide) ?_
    refine lv_iconst (v := 1) hx hb dMod_priceOf_104 (by decide) ?_
    exact hret 1 (()) _ _ _ (rfl) (hP.sub [] rfl) (hD.sub [] (by decide) rfl) hS dMod_priceOf_105
  · refine lv_iload_n hx hb dMod_priceOf_0 rfl (lv_at hl 0 rfl) ?_
    refine lv_tableIn (tgt := 104) (off := 103) hx hb dMod_priceOf_1 (by decide) (by decide) (by decide) (by decide) ?_
    refine lv_iconst (v := 1) hx hb dMod_priceOf_104 (by decide) ?_
    exact hret 1 (()) _ _ _ (rfl) (hP.sub [] rfl) (hD.sub [] (by decide) rfl) hS dMod_priceOf_105
  · refine lv_iload_n hx hb dMod_priceOf_0 rfl (lv_at hl 0 rfl) ?_
    refine lv_tableIn (tgt := 104) (off := 103) hx hb dMod_priceOf_1 (by decide) (by decide) (by decide) (by decide) ?_
    refine lv_iconst (v := 1) hx hb dMod_priceOf_104 (by decide) ?_
    exact hret 1 (()) _ _ _ (rfl) (hP.sub [] rfl) (hD.sub [] (by decide) rfl) hS dMod_priceOf_105
  · refine lv_iload_n hx hb dMod_priceOf_0 rfl (lv_at hl 0 rfl) ?_
    refine lv_tableIn (tgt := 92) (off := 91) hx hb dMod_priceOf_1 (by decide) (by decide) (by decide) (by decide) ?_
    refine lv_iconst (v := 2) hx hb dMod_priceOf_92 (by decide) ?_
    exact hret 2 (()) _ _ _ (rfl) (hP.sub [] rfl) (hD.sub [] (by decide) rfl) hS dMod_priceOf_93
  · refine lv_iload_n hx hb dMod_priceOf_0 rfl (lv_at hl 0 rfl) ?_
    refine lv_tableIn (tgt := 92) (off := 91) hx hb dMod_priceOf_1 (by decide) (by decide) (by decide) (by decide) ?_
    refine lv_iconst (v := 2) hx hb dMod_priceOf_92 (by decide) ?_
    exact hret 2 (()) _ _ _ (rfl) (hP.sub [] rfl) (hD.sub [] (by decide) rfl) hS dMod_priceOf_93
  · refine lv_iload_n hx hb dMod_priceOf_0 rfl (lv_at hl 0 rfl) ?_
    refine lv_tableIn (tgt := 101) (off := 100) hx hb dMod_priceOf_1 (by decide) (by decide) (by decide) (by decide) ?_
    refine lv_bipush (v := 10) hx hb dMod_priceOf_101 (by decide) ?_
    exact hret 10 (()) _ _ _ (rfl) (hP.sub [] rfl) (hD.sub [] (by decide) rfl) hS dMod_priceOf_103
  · refine lv_iload_n hx hb dMod_priceOf_0 rfl (lv_at hl 0 rfl) ?_
    refine lv_tableIn (tgt := 104) (off := 103) hx hb dMod_priceOf_1 (by decide) (by decide) (by decide) (by decide) ?_
    refine lv_iconst (v := 1) hx hb dMod_priceOf_104 (by decide) ?_
    exact hret 1 (()) _ _ _ (rfl) (hP.sub [] rfl) (hD.sub [] (by decide) rfl) hS dMod_priceOf_105
  · refine lv_iload_n hx hb dMod_priceOf_0 rfl (lv_at hl 0 rfl) ?_
    refine lv_tableIn (tgt := 104) (off := 103) hx hb dMod_priceOf_1 (by decide) (by decide) (by decide) (by decide) ?_
    refine lv_iconst (v := 1) hx hb dMod_priceOf_104 (by decide) ?_
    exact hret 1 (()) _ _ _ (rfl) (hP.sub [] rfl) (hD.sub [] (by decide) rfl) hS dMod_priceOf_105
  · refine lv_iload_n hx hb dMod_priceOf_0 rfl (lv_at hl 0 rfl) ?_
    refine lv_tableIn (tgt := 104) (off := 103) hx hb dMod_priceOf_1 (by decide) (by decide) (by decide) (by decide) ?_
    refine lv_iconst (v := 1) hx hb dMod_priceOf_104 (by decide) ?_
    exact hret 1 (()) _ _ _ (rfl) (hP.sub [] rfl) (hD.sub [] (by decide) rfl) hS dMod_priceOf_105
  · refine lv_iload_n hx hb dMod_priceOf_0 rfl (lv_at hl 0 rfl) ?_
    refine lv_tableIn (tgt := 104) (off := 103) hx hb dMod_priceOf_1 (by decide) (by decide) (by decide) (by decide) ?_
    refine lv_iconst (v := 1) hx hb dMod_priceOf_104 (by decide) ?_
    exact hret 1 (()) _ _ _ (rfl) (hP.sub [] rfl) (hD.sub [] (by decide) rfl) hS dMod_priceOf_105
  · refine lv_iload_n hx hb dMod_priceOf_0 rfl (lv_at hl 0 rfl) ?_
    refine lv_tableIn (tgt := 96) (off := 95) hx hb dMod_priceOf_1 (by decide) (by decide) (by decide) (by decide) ?_
    refine lv_iconst (v := 5) hx hb dMod_priceOf_96 (by decide) ?_
    exact hret 5 (()) _ _ _ (rfl) (hP.sub [] rfl) (hD.sub [] (by decide) rfl) hS dMod_priceOf_97
  · refine lv_iload_n hx hb dMod_priceOf_0 rfl (lv_at hl 0 rfl) ?_
    refine lv_tableIn (tgt := 98) (off := 97) hx hb dMod_priceOf_1 (by decide) (by decide) (by decide) (by decide) ?_
    refine lv_bipush (v := 8) hx hb dMod_priceOf_98 (by decide) ?_
    exact hret 8 (()) _ _ _ (rfl) (hP.sub [] rfl) (hD.sub [] (by decide) rfl) hS dMod_priceOf_100
  · refine lv_iload_n hx hb dMod_priceOf_0 rfl (lv_at hl 0 rfl) ?_
    refine lv_tableOut (tgt := 104) hx hb dMod_priceOf_1 (by decide) (by decide) ?_
    refine lv_iconst (v := 1) hx hb dMod_priceOf_104 (by decide) ?_
    exact hret 1 (()) _ _ _ (rfl) (hP.sub [] rfl) (hD.sub [] (by decide) rfl) hS dMod_priceOf_105
  · refine lv_iload_n hx hb dMod_priceOf_0 rfl (lv_at hl 0 rfl) ?_
    refine lv_tableOut (tgt := 104) hx hb dMod_priceOf_1 (by decide) (by decide) ?_
    refine lv_iconst (v := 1) hx hb dMod_priceOf_104 (by decide) ?_
    exact hret 1 (()) _ _ _ (rfl) (hP.sub [] rfl) (hD.sub [] (by decide) rfl) hS dMod_priceOf_105
  · refine lv_iload_n hx hb dMod_priceOf_0 rfl (lv_at hl 0 rfl) ?_
    refine lv_tableOut (tgt := 104) hx hb dMod_priceOf_1 (by decide) (by decide) ?_
    refine lv_iconst (v := 1) hx hb dMod_priceOf_104 (by decide) ?_
    exact hret 1 (()) _ _ _ (rfl) (hP.sub [] rfl) (hD.sub [] (by decide) rfl) hS dMod_priceOf_105

set_option maxHeartbeats 4000000 in
set_option maxRecDepth 100000 in
theorem kM_needs (l : Launch) (dC : Nat → ClassId) (dI : Nat → Nat → Nat) (kI kJ kZ : ClassId) (op : Nat) (x : Int32) (hop : op < 30) (hxj : op = 3 ∨ op = 4 ∨ op = 27 → x = nI x.toNatClampNeg) :
    XM stX l yMod_needs wMod_needs { frames := 0, cells := 0, slots := 0, locals := 0 } (dC, dI) xCl (x_T kI kJ kZ) [] [.int (nI op), .int x] 0 0 x_eI (fun (r : Int32) (u : Unit) => r = nI (xNeed op x)) (fun (u : Unit) => []) := by
  refine XM.ofI (cc := cMod_needs) (maxL := 2) (by decide) rfl (Nat.le_of_ble_eq_true rfl) ?_
  intro p e s m below meth c A Q hx hb hr hml hown hts hlocks hin hA hK hP hD hX hS ls hl hret
  have hl : lv_has ls 2 [(0, .int (nI op)), (1, .int x)] := hl
  rcases (show op = 0 ∨ op = 1 ∨ op = 2 ∨ op = 3 ∨ op = 4 ∨ op = 5 ∨ op = 6 ∨ op = 7 ∨ op = 8 ∨ op = 9 ∨ op = 10 ∨ op = 11 ∨ op = 12 ∨ op = 13 ∨ op = 14 ∨ op = 15 ∨ op = 16 ∨ op = 17 ∨ op = 18 ∨ op = 19 ∨ op = 20 ∨ op = 21 ∨ op = 22 ∨ op = 23 ∨ op = 24 ∨ op = 25 ∨ op = 26 ∨ op = 27 ∨ op = 28 ∨ op = 29 by omega) with rfl | rfl | rfl | rfl | rfl | rfl | rfl | rfl | rfl | rfl | rfl | rfl | rfl | rfl | rfl | rfl | rfl | rfl | rfl | rfl | rfl | rfl | rfl | rfl | rfl | rfl | rfl | rfl | rfl | rfl
  · refine lv_iload_n hx hb dMod_needs_0 rfl (lv_at hl 0 rfl) ?_
    refine lv_tableIn (tgt := 136) (off := 135) hx hb dMod_needs_1 (by decide) (by decide) (by decide) (by decide) ?_
    refine lv_iconst (v := 0) hx hb dMod_needs_136 (by decide) ?_
    exact hret 0 (()) _ _ _ (by first | rfl | exact m_p1 (hxj (by decide)) | exact m_p3 (hxj (by decide))) (hP.sub [] rfl) (hD.sub [] (by decide) rfl) hS dMod_needs_137
  · refine lv_iload_n hx hb dMod_needs_0 rfl (lv_at hl 0 rfl) ?_
    refine lv_tableIn (tgt := 136) (off := 135) hx hb dMod_needs_1 (by decide) (by decide) (by decide) (by decide) ?_
    refine lv_iconst (v := 0) hx hb dMod_needs_136 (by decide) ?_
    exact hret 0 (()) _ _ _ (by first | rfl | exact m_p1 (hxj (by decide)) | exact m_p3 (hxj (by decide))) (hP.sub [] rfl) (hD.sub [] (by decide) rfl) hS dMod_needs_137
  · refine lv_iload_n hx hb dMod_needs_0 rfl (lv_at hl 0 rfl) ?_
    refine lv_tableIn (tgt := 142) (off := 141) hx hb dMod_needs_1 (by decide) (by decide) (by decide) (by decide) ?_
    refine lv_iconst (v := 1) hx hb dMod_needs_142 (by decide) ?_
    exact hret 1 (()) _ _ _ (by first | rfl | exact m_p1 (hxj (by decide)) | exact m_p3 (hxj (by decide))) (hP.sub [] rfl) (hD.sub [] (by decide) rfl) hS dMod_needs_143
  · refine lv_iload_n hx hb dMod_needs_0 rfl (lv_at hl 0 rfl) ?_
    refine lv_tableIn (tgt := 138) (off := 137) hx hb dMod_needs_1 (by decide) (by decide) (by decide) (by decide) ?_
    refine lv_iload_n hx hb dMod_needs_138 rfl (lv_at hl 1 rfl) ?_
    refine lv_iconst (v := 1) hx hb dMod_needs_139 (by decide) ?_
    refine lv_iadd hx hb dMod_needs_140 ?_
    exact hret (x + 1) (()) _ _ _ (by first | rfl | exact m_p1 (hxj (by decide)) | exact m_p3 (hxj (by decide))) (hP.sub [] rfl) (hD.sub [] (by decide) rfl) hS dMod_needs_141
  · refine lv_iload_n hx hb dMod_needs_0 rfl (lv_at hl 0 rfl) ?_
    refine lv_tableIn (tgt := 138) (off := 137) hx hb dMod_needs_1 (by decide) (by decide) (by decide) (by decide) ?_
    refine lv_iload_n hx hb dMod_needs_138 rfl (lv_at hl 1 rfl) ?_
    refine lv_iconst (v := 1) hx hb dMod_needs_139 (by decide) ?_
    refine lv_iadd hx hb dMod_needs_140 ?_
    exact hret (x + 1) (()) _ _ _ (by first | rfl | exact m_p1 (hxj (by decide)) | exact m_p3 (hxj (by decide))) (hP.sub [] rfl) (hD.sub [] (by decide) rfl) hS dMod_needs_141
  · refine lv_iload_n hx hb dMod_needs_0 rfl (lv_at hl 0 rfl) ?_
    refine lv_tableIn (tgt := 148) (off := 147) hx hb dMod_needs_1 (by decide) (by decide) (by decide) (by decide) ?_
    refine lv_iconst (v := 2) hx hb dMod_needs_148 (by decide) ?_
    exact hret 2 (()) _ _ _ (by first | rfl | exact m_p1 (hxj (by decide)) | exact m_p3 (hxj (by decide))) (hP.sub [] rfl) (hD.sub [] (by decide) rfl) hS dMod_needs_149
  · refine lv_iload_n hx hb dMod_needs_0 rfl (lv_at hl 0 rfl) ?_
    refine lv_tableIn (tgt := 148) (off := 147) hx hb dMod_needs_1 (by decide) (by decide) (by decide) (by decide) ?_
    refine lv_iconst (v := 2) hx hb dMod_needs_148 (by decide) ?_
    exact hret 2 (()) _ _ _ (by first | rfl | exact m_p1 (hxj (by decide)) | exact m_p3 (hxj (by decide))) (hP.sub [] rfl) (hD.sub [] (by decide) rfl) hS dMod_needs_149
  · refine lv_iload_n hx hb dMod_needs_0 rfl (lv_at hl 0 rfl) ?_
    refine lv_tableIn (tgt := 148) (off := 147) hx hb dMod_needs_1 (by decide) (by decide) (by decide) (by decide) ?_
    refine lv_iconst (v := 2) hx hb dMod_needs_148 (by decide) ?_
    exact hret 2 (()) _ _ _ (by first | rfl | exact m_p1 (hxj (by decide)) | exact m_p3 (hxj (by decide))) (hP.sub [] rfl) (hD.sub [] (by decide) rfl) hS dMod_needs_149
  · refine lv_iload_n hx hb dMod_needs_0 rfl (lv_at hl 0 rfl) ?_
    refine lv_tableIn (tgt := 148) (off := 147) hx hb dMod_needs_1 (by decide) (by decide) (by decide) (by decide) ?_
    refine lv_iconst (v := 2) hx hb dMod_needs_148 (by decide) ?_
    exact hret 2 (()) _ _ _ (by first | rfl | exact m_p1 (hxj (by decide)) | exact m_p3 (hxj (by decide))) (hP.sub [] rfl) (hD.sub [] (by decide) rfl) hS dMod_needs_149
  · refine lv_iload_n hx hb dMod_needs_0 rfl (lv_at hl 0 rfl) ?_
    refine lv_tableIn (tgt := 148) (off := 147) hx hb dMod_needs_1 (by decide) (by decide) (by decide) (by decide) ?_
    refine lv_iconst (v := 2) hx hb dMod_needs_148 (by decide) ?_
    exact hret 2 (()) _ _ _ (by first | rfl | exact m_p1 (hxj (by decide)) | exact m_p3 (hxj (by decide))) (hP.sub [] rfl) (hD.sub [] (by decide) rfl) hS dMod_needs_149
  · refine lv_iload_n hx hb dMod_needs_0 rfl (lv_at hl 0 rfl) ?_
    refine lv_tableIn (tgt := 148) (off := 147) hx hb dMod_needs_1 (by decide) (by decide) (by decide) (by decide) ?_
    refine lv_iconst (v := 2) hx hb dMod_needs_148 (by decide) ?_
    exact hret 2 (()) _ _ _ (by first | rfl | exact m_p1 (hxj (by decide)) | exact m_p3 (hxj (by decide))) (hP.sub [] rfl) (hD.sub [] (by decide) rfl) hS dMod_needs_149
  · refine lv_iload_n hx hb dMod_needs_0 rfl (lv_at hl 0 rfl) ?_
    refine lv_tableIn (tgt := 148) (off := 147) hx hb dMod_needs_1 (by decide) (by decide) (by decide) (by decide) ?_
    refine lv_iconst (v := 2) hx hb dMod_needs_148 (by decide) ?_
    exact hret 2 (()) _ _ _ (by first | rfl | exact m_p1 (hxj (by decide)) | exact m_p3 (hxj (by decide))) (hP.sub [] rfl) (hD.sub [] (by decide) rfl) hS dMod_needs_149
  · refine lv_iload_n hx hb dMod_needs_0 rfl (lv_at hl 0 rfl) ?_
    refine lv_tableIn (tgt := 142) (off := 141) hx hb dMod_needs_1 (by decide) (by decide) (by decide) (by decide) ?_
    refine lv_iconst (v := 1) hx hb dMod_needs_142 (by decide) ?_
    exact hret 1 (()) _ _ _ (by first | rfl | exact m_p1 (hxj (by decide)) | exact m_p3 (hxj (by decide))) (hP.sub [] rfl) (hD.sub [] (by decide) rfl) hS dMod_needs_143
  · refine lv_iload_n hx hb dMod_needs_0 rfl (lv_at hl 0 rfl) ?_
    refine lv_tableIn (tgt := 148) (off := 147) hx hb dMod_needs_1 (by decide) (by decide) (by decide) (by decide) ?_
    refine lv_iconst (v := 2) hx hb dMod_needs_148 (by decide) ?_
    exact hret 2 (()) _ _ _ (by first | rfl | exact m_p1 (hxj (by decide)) | exact m_p3 (hxj (by decide))) (hP.sub [] rfl) (hD.sub [] (by decide) rfl) hS dMod_needs_149
  · refine lv_iload_n hx hb dMod_needs_0 rfl (lv_at hl 0 rfl) ?_
    refine lv_tableIn (tgt := 148) (off := 147) hx hb dMod_needs_1 (by decide) (by decide) (by decide) (by decide) ?_
    refine lv_iconst (v := 2) hx hb dMod_needs_148 (by decide) ?_
    exact hret 2 (()) _ _ _ (by first | rfl | exact m_p1 (hxj (by decide)) | exact m_p3 (hxj (by decide))) (hP.sub [] rfl) (hD.sub [] (by decide) rfl) hS dMod_needs_149
  · refine lv_iload_n hx hb dMod_needs_0 rfl (lv_at hl 0 rfl) ?_
    refine lv_tableIn (tgt := 148) (off := 147) hx hb dMod_needs_1 (by decide) (by decide) (by decide) (by decide) ?_
    refine lv_iconst (v := 2) hx hb dMod_needs_148 (by decide) ?_
    exact hret 2 (()) _ _ _ (by first | rfl | exact m_p1 (hxj (by decide)) | exact m_p3 (hxj (by decide))) (hP.sub [] rfl) (hD.sub [] (by decide) rfl) hS dMod_needs_149
  · refine lv_iload_n hx hb dMod_needs_0 rfl (lv_at hl 0 rfl) ?_
    refine lv_tableIn (tgt := 136) (off := 135) hx hb dMod_needs_1 (by decide) (by decide) (by decide) (by decide) ?_
    refine lv_iconst (v := 0) hx hb dMod_needs_136 (by decide) ?_
    exact hret 0 (()) _ _ _ (by first | rfl | exact m_p1 (hxj (by decide)) | exact m_p3 (hxj (by decide))) (hP.sub [] rfl) (hD.sub [] (by decide) rfl) hS dMod_needs_137
  · refine lv_iload_n hx hb dMod_needs_0 rfl (lv_at hl 0 rfl) ?_
    refine lv_tableIn (tgt := 142) (off := 141) hx hb dMod_needs_1 (by decide) (by decide) (by decide) (by decide) ?_
    refine lv_iconst (v := 1) hx hb dMod_needs_142 (by decide) ?_
    exact hret 1 (()) _ _ _ (by first | rfl | exact m_p1 (hxj (by decide)) | exact m_p3 (hxj (by decide))) (hP.sub [] rfl) (hD.sub [] (by decide) rfl) hS dMod_needs_143
  · refine lv_iload_n hx hb dMod_needs_0 rfl (lv_at hl 0 rfl) ?_
    refine lv_tableIn (tgt := 142) (off := 141) hx hb dMod_needs_1 (by decide) (by decide) (by decide) (by decide) ?_
    refine lv_iconst (v := 1) hx hb dMod_needs_142 (by decide) ?_
    exact hret 1 (()) _ _ _ (by first | rfl | exact m_p1 (hxj (by decide)) | exact m_p3 (hxj (by decide))) (hP.sub [] rfl) (hD.sub [] (by decide) rfl) hS dMod_needs_143
  · refine lv_iload_n hx hb dMod_needs_0 rfl (lv_at hl 0 rfl) ?_
    refine lv_tableIn (tgt := 148) (off := 147) hx hb dMod_needs_1 (by decide) (by decide) (by decide) (by decide) ?_
    refine lv_iconst (v := 2) hx hb dMod_needs_148 (by decide) ?_
    exact hret 2 (()) _ _ _ (by first | rfl | exact m_p1 (hxj (by decide)) | exact m_p3 (hxj (by decide))) (hP.sub [] rfl) (hD.sub [] (by decide) rfl) hS dMod_needs_149
  · refine lv_iload_n hx hb dMod_needs_0 rfl (lv_at hl 0 rfl) ?_
    refine lv_tableIn (tgt := 142) (off := 141) hx hb dMod_needs_1 (by decide) (by decide) (by decide) (by decide) ?_
    refine lv_iconst (v := 1) hx hb dMod_needs_142 (by decide) ?_
    exact hret 1 (()) _ _ _ (by first | rfl | exact m_p1 (hxj (by decide)) | exact m_p3 (hxj (by decide))) (hP.sub [] rfl) (hD.sub [] (by decide) rfl) hS dMod_needs_143
  · refine lv_iload_n hx hb dMod_needs_0 rfl (lv_at hl 0 rfl) ?_
    refine lv_tableIn (tgt := 136) (off := 135) hx hb dMod_needs_1 (by decide) (by decide) (by decide) (by decide) ?_
    refine lv_iconst (v := 0) hx hb dMod_needs_136 (by decide) ?_
    exact hret 0 (()) _ _ _ (by first | rfl | exact m_p1 (hxj (by decide)) | exact m_p3 (hxj (by decide))) (hP.sub [] rfl) (hD.sub [] (by decide) rfl) hS dMod_needs_137
  · refine lv_iload_n hx hb dMod_needs_0 rfl (lv_at hl 0 rfl) ?_
    refine lv_tableIn (tgt := 136) (off := 135) hx hb dMod_needs_1 (by decide) (by decide) (by decide) (by decide) ?_
    refine lv_iconst (v := 0) hx hb dMod_needs_136 (by decide) ?_
    exact hret 0 (()) _ _ _ (by first | rfl | exact m_p1 (hxj (by decide)) | exact m_p3 (hxj (by decide))) (hP.sub [] rfl) (hD.sub [] (by decide) rfl) hS dMod_needs_137
  · refine lv_iload_n hx hb dMod_needs_0 rfl (lv_at hl 0 rfl) ?_
    refine lv_tableIn (tgt := 136) (off := 135) hx hb dMod_needs_1 (by decide) (by decide) (by decide) (by decide) ?_
    refine lv_iconst (v := 0) hx hb dMod_needs_136 (by decide) ?_
    exact hret 0 (()) _ _ _ (by first | rfl | exact m_p1 (hxj (by decide)) | exact m_p3 (hxj (by decide))) (hP.sub [] rfl) (hD.sub [] (by decide) rfl) hS dMod_needs_137
  · refine lv_iload_n hx hb dMod_needs_0 rfl (lv_at hl 0 rfl) ?_
    refine lv_tableIn (tgt := 142) (off := 141) hx hb dMod_needs_1 (by decide) (by decide) (by decide) (by decide) ?_
    refine lv_iconst (v := 1) hx hb dMod_needs_142 (by decide) ?_
    exact hret 1 (()) _ _ _ (by first | rfl | exact m_p1 (hxj (by decide)) | exact m_p3 (hxj (by decide))) (hP.sub [] rfl) (hD.sub [] (by decide) rfl) hS dMod_needs_143
  · refine lv_iload_n hx hb dMod_needs_0 rfl (lv_at hl 0 rfl) ?_
    refine lv_tableIn (tgt := 142) (off := 141) hx hb dMod_needs_1 (by decide) (by decide) (by decide) (by decide) ?_
    refine lv_iconst (v := 1) hx hb dMod_needs_142 (by decide) ?_
    exact hret 1 (()) _ _ _ (by first | rfl | exact m_p1 (hxj (by decide)) | exact m_p3 (hxj (by decide))) (hP.sub [] rfl) (hD.sub [] (by decide) rfl) hS dMod_needs_143
  · refine lv_iload_n hx hb dMod_needs_0 rfl (lv_at hl 0 rfl) ?_
    refine lv_tableIn (tgt := 142) (off := 141) hx hb dMod_needs_1 (by decide) (by decide) (by decide) (by decide) ?_
    refine lv_iconst (v := 1) hx hb dMod_needs_142 (by decide) ?_
    exact hret 1 (()) _ _ _ (by first | rfl | exact m_p1 (hxj (by decide)) | exact m_p3 (hxj (by decide))) (hP.sub [] rfl) (hD.sub [] (by decide) rfl) hS dMod_needs_143
  · refine lv_iload_n hx hb dMod_needs_0 rfl (lv_at hl 0 rfl) ?_
    refine lv_tableIn (tgt := 144) (off := 143) hx hb dMod_needs_1 (by decide) (by decide) (by decide) (by decide) ?_
    refine lv_iload_n hx hb dMod_needs_144 rfl (lv_at hl 1 rfl) ?_
    refine lv_iconst (v := 3) hx hb dMod_needs_145 (by decide) ?_
    refine lv_iadd hx hb dMod_needs_146 ?_
    exact hret (x + 3) (()) _ _ _ (by first | rfl | exact m_p1 (hxj (by decide)) | exact m_p3 (hxj (by decide))) (hP.sub [] rfl) (hD.sub [] (by decide) rfl) hS dMod_needs_147
  · refine lv_iload_n hx hb dMod_needs_0 rfl (lv_at hl 0 rfl) ?_
    refine lv_tableIn (tgt := 136) (off := 135) hx hb dMod_needs_1 (by decide) (by decide) (by decide) (by decide) ?_
    refine lv_iconst (v := 0) hx hb dMod_needs_136 (by decide) ?_
    exact hret 0 (()) _ _ _ (by first | rfl | exact m_p1 (hxj (by decide)) | exact m_p3 (hxj (by decide))) (hP.sub [] rfl) (hD.sub [] (by decide) rfl) hS dMod_needs_137
  · refine lv_iload_n hx hb dMod_needs_0 rfl (lv_at hl 0 rfl) ?_
    refine lv_tableIn (tgt := 142) (off := 141) hx hb dMod_needs_1 (by decide) (by decide) (by decide) (by decide) ?_
    refine lv_iconst (v := 1) hx hb dMod_needs_142 (by decide) ?_
    exact hret 1 (()) _ _ _ (by first | rfl | exact m_p1 (hxj (by decide)) | exact m_p3 (hxj (by decide))) (hP.sub [] rfl) (hD.sub [] (by decide) rfl) hS dMod_needs_143

set_option maxHeartbeats 4000000 in
set_option maxRecDepth 100000 in
theorem kM_leaves (l : Launch) (dC : Nat → ClassId) (dI : Nat → Nat → Nat) (kI kJ kZ : ClassId) (op : Nat) (x : Int32) (hop : op < 30) (hxj : op = 3 ∨ op = 4 ∨ op = 27 → x = nI x.toNatClampNeg) :
    XM stX l yMod_leaves wMod_leaves { frames := 0, cells := 0, slots := 0, locals := 0 } (dC, dI) xCl (x_T kI kJ kZ) [] [.int (nI op), .int x] 0 0 x_eI (fun (r : Int32) (u : Unit) => r = nI (mLv op x)) (fun (u : Unit) => []) := by
  refine XM.ofI (cc := cMod_leaves) (maxL := 2) (by decide) rfl (Nat.le_of_ble_eq_true rfl) ?_
  intro p e s m below meth c A Q hx hb hr hml hown hts hlocks hin hA hK hP hD hX hS ls hl hret
  have hl : lv_has ls 2 [(0, .int (nI op)), (1, .int x)] := hl
  rcases (show op = 0 ∨ op = 1 ∨ op = 2 ∨ op = 3 ∨ op = 4 ∨ op = 5 ∨ op = 6 ∨ op = 7 ∨ op = 8 ∨ op = 9 ∨ op = 10 ∨ op = 11 ∨ op = 12 ∨ op = 13 ∨ op = 14 ∨ op = 15 ∨ op = 16 ∨ op = 17 ∨ op = 18 ∨ op = 19 ∨ op = 20 ∨ op = 21 ∨ op = 22 ∨ op = 23 ∨ op = 24 ∨ op = 25 ∨ op = 26 ∨ op = 27 ∨ op = 28 ∨ op = 29 by omega) with rfl | rfl | rfl | rfl | rfl | rfl | rfl | rfl | rfl | rfl | rfl | rfl | rfl | rfl | rfl | rfl | rfl | rfl | rfl | rfl | rfl | rfl | rfl | rfl | rfl | rfl | rfl | rfl | rfl | rfl
  · refine lv_iload_n hx hb dMod_leaves_0 rfl (lv_at hl 0 rfl) ?_
    refine lv_tableIn (tgt := 136) (off := 135) hx hb dMod_leaves_1 (by decide) (by decide) (by decide) (by decide) ?_
    refine lv_iconst (v := 0) hx hb dMod_leaves_136 (by decide) ?_
    exact hret 0 (()) _ _ _ (by first | rfl | exact m_pk 1 (hxj (by decide)) | exact m_pk 2 (hxj (by decide))) (hP.sub [] rfl) (hD.sub [] (by decide) rfl) hS dMod_leaves_137
  · refine lv_iload_n hx hb dMod_leaves_0 rfl (lv_at hl 0 rfl) ?_
    refine lv_tableIn (tgt := 148) (off := 147) hx hb dMod_leaves_1 (by decide) (by decide) (by decide) (by decide) ?_
    refine lv_iconst (v := 1) hx hb dMod_leaves_148 (by decide) ?_
    exact hret 1 (()) _ _ _ (by first | rfl | exact m_pk 1 (hxj (by decide)) | exact m_pk 2 (hxj (by decide))) (hP.sub [] rfl) (hD.sub [] (by decide) rfl) hS dMod_leaves_149
  · refine lv_iload_n hx hb dMod_leaves_0 rfl (lv_at hl 0 rfl) ?_
    refine lv_tableIn (tgt := 136) (off := 135) hx hb dMod_leaves_1 (by decide) (by decide) (by decide) (by decide) ?_
    refine lv_iconst (v := 0) hx hb dMod_leaves_136 (by decide) ?_
    exact hret 0 (()) _ _ _ (by first | rfl | exact m_pk 1 (hxj (by decide)) | exact m_pk 2 (hxj (by decide))) (hP.sub [] rfl) (hD.sub [] (by decide) rfl) hS dMod_leaves_137
  · refine lv_iload_n hx hb dMod_leaves_0 rfl (lv_at hl 0 rfl) ?_
    refine lv_tableIn (tgt := 138) (off := 137) hx hb dMod_leaves_1 (by decide) (by decide) (by decide) (by decide) ?_
    refine lv_iload_n hx hb dMod_leaves_138 rfl (lv_at hl 1 rfl) ?_
    refine lv_iconst (v := 2) hx hb dMod_leaves_139 (by decide) ?_
    refine lv_iadd hx hb dMod_leaves_140 ?_
    exact hret (x + 2) (()) _ _ _ (by first | rfl | exact m_pk 1 (hxj (by decide)) | exact m_pk 2 (hxj (by decide))) (hP.sub [] rfl) (hD.sub [] (by decide) rfl) hS dMod_leaves_141
  · refine lv_iload_n hx hb dMod_leaves_0 rfl (lv_at hl 0 rfl) ?_
    refine lv_tableIn (tgt := 142) (off := 141) hx hb dMod_leaves_1 (by decide) (by decide) (by decide) (by decide) ?_
    refine lv_iload_n hx hb dMod_leaves_142 rfl (lv_at hl 1 rfl) ?_
    refine lv_iconst (v := 1) hx hb dMod_leaves_143 (by decide) ?_
    refine lv_iadd hx hb dMod_leaves_144 ?_
    exact hret (x + 1) (()) _ _ _ (by first | rfl | exact m_pk 1 (hxj (by decide)) | exact m_pk 2 (hxj (by decide))) (hP.sub [] rfl) (hD.sub [] (by decide) rfl) hS dMod_leaves_145
  · refine lv_iload_n hx hb dMod_leaves_0 rfl (lv_at hl 0 rfl) ?_
    refine lv_tableIn (tgt := 148) (off := 147) hx hb dMod_leaves_1 (by decide) (by decide) (by decide) (by decide) ?_
    refine lv_iconst (v := 1) hx hb dMod_leaves_148 (by decide) ?_
    exact hret 1 (()) _ _ _ (by first | rfl | exact m_pk 1 (hxj (by decide)) | exact m_pk 2 (hxj (by decide))) (hP.sub [] rfl) (hD.sub [] (by decide) rfl) hS dMod_leaves_149
  · refine lv_iload_n hx hb dMod_leaves_0 rfl (lv_at hl 0 rfl) ?_
    refine lv_tableIn (tgt := 148) (off := 147) hx hb dMod_leaves_1 (by decide) (by decide) (by decide) (by decide) ?_
    refine lv_iconst (v := 1) hx hb dMod_leaves_148 (by decide) ?_
    exact hret 1 (()) _ _ _ (by first | rfl | exact m_pk 1 (hxj (by decide)) | exact m_pk 2 (hxj (by decide))) (hP.sub [] rfl) (hD.sub [] (by decide) rfl) hS dMod_leaves_149
  · refine lv_iload_n hx hb dMod_leaves_0 rfl (lv_at hl 0 rfl) ?_
    refine lv_tableIn (tgt := 148) (off := 147) hx hb dMod_leaves_1 (by decide) (by decide) (by decide) (by decide) ?_
    refine lv_iconst (v := 1) hx hb dMod_leaves_148 (by decide) ?_
    exact hret 1 (()) _ _ _ (by first | rfl | exact m_pk 1 (hxj (by decide)) | exact m_pk 2 (hxj (by decide))) (hP.sub [] rfl) (hD.sub [] (by decide) rfl) hS dMod_leaves_149
  · refine lv_iload_n hx hb dMod_leaves_0 rfl (lv_at hl 0 rfl) ?_
    refine lv_tableIn (tgt := 148) (off := 147) hx hb dMod_leaves_1 (by decide) (by decide) (by decide) (by decide) ?_
    refine lv_iconst (v := 1) hx hb dMod_leaves_148 (by decide) ?_
    exact hret 1 (()) _ _ _ (by first | rfl | exact m_pk 1 (hxj (by decide)) | exact m_pk 2 (hxj (by decide))) (hP.sub [] rfl) (hD.sub [] (by decide) rfl) hS dMod_leaves_149
  · refine lv_iload_n hx hb dMod_leaves_0 rfl (lv_at hl 0 rfl) ?_
    refine lv_tableIn (tgt := 148) (off := 147) hx hb dMod_leaves_1 (by decide) (by decide) (by decide) (by decide) ?_
    refine lv_iconst (v := 1) hx hb dMod_leaves_148 (by decide) ?_
    exact hret 1 (()) _ _ _ (by first | rfl | exact m_pk 1 (hxj (by decide)) | exact m_pk 2 (hxj (by decide))) (hP.sub [] rfl) (hD.sub [] (by decide) rfl) hS dMod_leaves_149
  · refine lv_iload_n hx hb dMod_leaves_0 rfl (lv_at hl 0 rfl) ?_
    refine lv_tableIn (tgt := 148) (off := 147) hx hb dMod_leaves_1 (by decide) (by decide) (by decide) (by decide) ?_
    refine lv_iconst (v := 1) hx hb dMod_leaves_148 (by decide) ?_
    exact hret 1 (()) _ _ _ (by first | rfl | exact m_pk 1 (hxj (by decide)) | exact m_pk 2 (hxj (by decide))) (hP.sub [] rfl) (hD.sub [] (by decide) rfl) hS dMod_leaves_149
  · refine lv_iload_n hx hb dMod_leaves_0 rfl (lv_at hl 0 rfl) ?_
    refine lv_tableIn (tgt := 148) (off := 147) hx hb dMod_leaves_1 (by decide) (by decide) (by decide) (by decide) ?_
    refine lv_iconst (v := 1) hx hb dMod_leaves_148 (by decide) ?_
    exact hret 1 (()) _ _ _ (by first | rfl | exact m_pk 1 (hxj (by decide)) | exact m_pk 2 (hxj (by decide))) (hP.sub [] rfl) (hD.sub [] (by decide) rfl) hS dMod_leaves_149
  · refine lv_iload_n hx hb dMod_leaves_0 rfl (lv_at hl 0 rfl) ?_
    refine lv_tableIn (tgt := 148) (off := 147) hx hb dMod_leaves_1 (by decide) (by decide) (by decide) (by decide) ?_
    refine lv_iconst (v := 1) hx hb dMod_leaves_148 (by decide) ?_
    exact hret 1 (()) _ _ _ (by first | rfl | exact m_pk 1 (hxj (by decide)) | exact m_pk 2 (hxj (by decide))) (hP.sub [] rfl) (hD.sub [] (by decide) rfl) hS dMod_leaves_149
  · refine lv_iload_n hx hb dMod_leaves_0 rfl (lv_at hl 0 rfl) ?_
    refine lv_tableIn (tgt := 148) (off := 147) hx hb dMod_leaves_1 (by decide) (by decide) (by decide) (by decide) ?_
    refine lv_iconst (v := 1) hx hb dMod_leaves_148 (by decide) ?_
    exact hret 1 (()) _ _ _ (by first | rfl | exact m_pk 1 (hxj (by decide)) | exact m_pk 2 (hxj (by decide))) (hP.sub [] rfl) (hD.sub [] (by decide) rfl) hS dMod_leaves_149
  · refine lv_iload_n hx hb dMod_leaves_0 rfl (lv_at hl 0 rfl) ?_
    refine lv_tableIn (tgt := 148) (off := 147) hx hb dMod_leaves_1 (by decide) (by decide) (by decide) (by decide) ?_
    refine lv_iconst (v := 1) hx hb dMod_leaves_148 (by decide) ?_
    exact hret 1 (()) _ _ _ (by first | rfl | exact m_pk 1 (hxj (by decide)) | exact m_pk 2 (hxj (by decide))) (hP.sub [] rfl) (hD.sub [] (by decide) rfl) hS dMod_leaves_149
  · refine lv_iload_n hx hb dMod_leaves_0 rfl (lv_at hl 0 rfl) ?_
    refine lv_tableIn (tgt := 148) (off := 147) hx hb dMod_leaves_1 (by decide) (by decide) (by decide) (by decide) ?_
    refine lv_iconst (v := 1) hx hb dMod_leaves_148 (by decide) ?_
    exact hret 1 (()) _ _ _ (by first | rfl | exact m_pk 1 (hxj (by decide)) | exact m_pk 2 (hxj (by decide))) (hP.sub [] rfl) (hD.sub [] (by decide) rfl) hS dMod_leaves_149
  · refine lv_iload_n hx hb dMod_leaves_0 rfl (lv_at hl 0 rfl) ?_
    refine lv_tableIn (tgt := 136) (off := 135) hx hb dMod_leaves_1 (by decide) (by decide) (by decide) (by decide) ?_
    refine lv_iconst (v := 0) hx hb dMod_leaves_136 (by decide) ?_
    exact hret 0 (()) _ _ _ (by first | rfl | exact m_pk 1 (hxj (by decide)) | exact m_pk 2 (hxj (by decide))) (hP.sub [] rfl) (hD.sub [] (by decide) rfl) hS dMod_leaves_137
  · refine lv_iload_n hx hb dMod_leaves_0 rfl (lv_at hl 0 rfl) ?_
    refine lv_tableIn (tgt := 136) (off := 135) hx hb dMod_leaves_1 (by decide) (by decide) (by decide) (by decide) ?_
    refine lv_iconst (v := 0) hx hb dMod_leaves_136 (by decide) ?_
    exact hret 0 (()) _ _ _ (by first | rfl | exact m_pk 1 (hxj (by decide)) | exact m_pk 2 (hxj (by decide))) (hP.sub [] rfl) (hD.sub [] (by decide) rfl) hS dMod_leaves_137
  · refine lv_iload_n hx hb dMod_leaves_0 rfl (lv_at hl 0 rfl) ?_
    refine lv_tableIn (tgt := 148) (off := 147) hx hb dMod_leaves_1 (by decide) (by decide) (by decide) (by decide) ?_
    refine lv_iconst (v := 1) hx hb dMod_leaves_148 (by decide) ?_
    exact hret 1 (()) _ _ _ (by first | rfl | exact m_pk 1 (hxj (by decide)) | exact m_pk 2 (hxj (by decide))) (hP.sub [] rfl) (hD.sub [] (by decide) rfl) hS dMod_leaves_149
  · refine lv_iload_n hx hb dMod_leaves_0 rfl (lv_at hl 0 rfl) ?_
    refine lv_tableIn (tgt := 136) (off := 135) hx hb dMod_leaves_1 (by decide) (by decide) (by decide) (by decide) ?_
    refine lv_iconst (v := 0) hx hb dMod_leaves_136 (by decide) ?_
    exact hret 0 (()) _ _ _ (by first | rfl | exact m_pk 1 (hxj (by decide)) | exact m_pk 2 (hxj (by decide))) (hP.sub [] rfl) (hD.sub [] (by decide) rfl) hS dMod_leaves_137
  · refine lv_iload_n hx hb dMod_leaves_0 rfl (lv_at hl 0 rfl) ?_
    refine lv_tableIn (tgt := 148) (off := 147) hx hb dMod_leaves_1 (by decide) (by decide) (by decide) (by decide) ?_
    refine lv_iconst (v := 1) hx hb dMod_leaves_148 (by decide) ?_
    exact hret 1 (()) _ _ _ (by first | rfl | exact m_pk 1 (hxj (by decide)) | exact m_pk 2 (hxj (by decide))) (hP.sub [] rfl) (hD.sub [] (by decide) rfl) hS dMod_leaves_149
  · refine lv_iload_n hx hb dMod_leaves_0 rfl (lv_at hl 0 rfl) ?_
    refine lv_tableIn (tgt := 148) (off := 147) hx hb dMod_leaves_1 (by decide) (by decide) (by decide) (by decide) ?_
    refine lv_iconst (v := 1) hx hb dMod_leaves_148 (by decide) ?_
    exact hret 1 (()) _ _ _ (by first | rfl | exact m_pk 1 (hxj (by decide)) | exact m_pk 2 (hxj (by decide))) (hP.sub [] rfl) (hD.sub [] (by decide) rfl) hS dMod_leaves_149
  · refine lv_iload_n hx hb dMod_leaves_0 rfl (lv_at hl 0 rfl) ?_
    refine lv_tableIn (tgt := 148) (off := 147) hx hb dMod_leaves_1 (by decide) (by decide) (by decide) (by decide) ?_
    refine lv_iconst (v := 1) hx hb dMod_leaves_148 (by decide) ?_
    exact hret 1 (()) _ _ _ (by first | rfl | exact m_pk 1 (hxj (by decide)) | exact m_pk 2 (hxj (by decide))) (hP.sub [] rfl) (hD.sub [] (by decide) rfl) hS dMod_leaves_149
  · refine lv_iload_n hx hb dMod_leaves_0 rfl (lv_at hl 0 rfl) ?_
    refine lv_tableIn (tgt := 148) (off := 147) hx hb dMod_leaves_1 (by decide) (by decide) (by decide) (by decide) ?_
    refine lv_iconst (v := 1) hx hb dMod_leaves_148 (by decide) ?_
    exact hret 1 (()) _ _ _ (by first | rfl | exact m_pk 1 (hxj (by decide)) | exact m_pk 2 (hxj (by decide))) (hP.sub [] rfl) (hD.sub [] (by decide) rfl) hS dMod_leaves_149
  · refine lv_iload_n hx hb dMod_leaves_0 rfl (lv_at hl 0 rfl) ?_
    refine lv_tableIn (tgt := 148) (off := 147) hx hb dMod_leaves_1 (by decide) (by decide) (by decide) (by decide) ?_
    refine lv_iconst (v := 1) hx hb dMod_leaves_148 (by decide) ?_
    exact hret 1 (()) _ _ _ (by first | rfl | exact m_pk 1 (hxj (by decide)) | exact m_pk 2 (hxj (by decide))) (hP.sub [] rfl) (hD.sub [] (by decide) rfl) hS dMod_leaves_149
  · refine lv_iload_n hx hb dMod_leaves_0 rfl (lv_at hl 0 rfl) ?_
    refine lv_tableIn (tgt := 136) (off := 135) hx hb dMod_leaves_1 (by decide) (by decide) (by decide) (by decide) ?_
    refine lv_iconst (v := 0) hx hb dMod_leaves_136 (by decide) ?_
    exact hret 0 (()) _ _ _ (by first | rfl | exact m_pk 1 (hxj (by decide)) | exact m_pk 2 (hxj (by decide))) (hP.sub [] rfl) (hD.sub [] (by decide) rfl) hS dMod_leaves_137
  · refine lv_iload_n hx hb dMod_leaves_0 rfl (lv_at hl 0 rfl) ?_
    refine lv_tableIn (tgt := 136) (off := 135) hx hb dMod_leaves_1 (by decide) (by decide) (by decide) (by decide) ?_
    refine lv_iconst (v := 0) hx hb dMod_leaves_136 (by decide) ?_
    exact hret 0 (()) _ _ _ (by first | rfl | exact m_pk 1 (hxj (by decide)) | exact m_pk 2 (hxj (by decide))) (hP.sub [] rfl) (hD.sub [] (by decide) rfl) hS dMod_leaves_137
  · refine lv_iload_n hx hb dMod_leaves_0 rfl (lv_at hl 0 rfl) ?_
    refine lv_tableIn (tgt := 146) (off := 145) hx hb dMod_leaves_1 (by decide) (by decide) (by decide) (by decide) ?_
    refine lv_iconst (v := 2) hx hb dMod_leaves_146 (by decide) ?_
    exact hret 2 (()) _ _ _ (by first | rfl | exact m_pk 1 (hxj (by decide)) | exact m_pk 2 (hxj (by decide))) (hP.sub [] rfl) (hD.sub [] (by decide) rfl) hS dMod_leaves_147
  · refine lv_iload_n hx hb dMod_leaves_0 rfl (lv_at hl 0 rfl) ?_
    refine lv_tableIn (tgt := 148) (off := 147) hx hb dMod_leaves_1 (by decide) (by decide) (by decide) (by decide) ?_
    refine lv_iconst (v := 1) hx hb dMod_leaves_148 (by decide) ?_
    exact hret 1 (()) _ _ _ (by first | rfl | exact m_pk 1 (hxj (by decide)) | exact m_pk 2 (hxj (by decide))) (hP.sub [] rfl) (hD.sub [] (by decide) rfl) hS dMod_leaves_149
  · refine lv_iload_n hx hb dMod_leaves_0 rfl (lv_at hl 0 rfl) ?_
    refine lv_tableIn (tgt := 136) (off := 135) hx hb dMod_leaves_1 (by decide) (by decide) (by decide) (by decide) ?_
    refine lv_iconst (v := 0) hx hb dMod_leaves_136 (by decide) ?_
    exact hret 0 (()) _ _ _ (by first | rfl | exact m_pk 1 (hxj (by decide)) | exact m_pk 2 (hxj (by decide))) (hP.sub [] rfl) (hD.sub [] (by decide) rfl) hS dMod_leaves_137

set_option maxHeartbeats 4000000 in
set_option maxRecDepth 100000 in
theorem kM_made (l : Launch) (dC : Nat → ClassId) (dI : Nat → Nat → Nat) (kI kJ kZ : ClassId) (op : Nat) (y : Int32) (w : Int32) (hop : 5 ≤ op) (hop2 : op < 16) (h12 : op ≠ 12) :
    XM stX l yMod_made wMod_made { frames := 0, cells := 0, slots := 0, locals := 0 } (dC, dI) xCl (x_T kI kJ kZ) [] [.int (nI op), .int y, .int w] 0 0 x_eI (fun (r : Int32) (u : Unit) => r = xComp op y w) (fun (u : Unit) => []) := by
  refine XM.ofI (cc := cMod_made) (maxL := 3) (by decide) rfl (Nat.le_of_ble_eq_true rfl) ?_
  intro p e s m below meth c A Q hx hb hr hml hown hts hlocks hin hA hK hP hD hX hS ls hl hret
  have hl : lv_has ls 3 [(0, .int (nI op)), (1, .int y), (2, .int w)] := hl
  rcases (show op = 5 ∨ op = 6 ∨ op = 7 ∨ op = 8 ∨ op = 9 ∨ op = 10 ∨ op = 11 ∨ op = 13 ∨ op = 14 ∨ op = 15 by omega) with rfl | rfl | rfl | rfl | rfl | rfl | rfl | rfl | rfl | rfl
  · refine lv_iload_n hx hb dMod_made_0 rfl (lv_at hl 0 rfl) ?_
    refine lv_tableIn (tgt := 56) (off := 55) hx hb dMod_made_1 (by decide) (by decide) (by decide) (by decide) ?_
    refine lv_iload_n hx hb dMod_made_56 rfl (lv_at hl 1 rfl) ?_
    refine lv_iload_n hx hb dMod_made_57 rfl (lv_at hl 2 rfl) ?_
    refine lv_iadd hx hb dMod_made_58 ?_
    exact hret (y + w) (()) _ _ _ (by first | rfl | exact (if_pos c69).symm | exact (if_neg c69).symm | exact (if_pos c81).symm | exact (if_neg c81).symm | exact (if_neg (Int32.not_lt.mpr c94)).symm | exact (if_pos (Int32.not_le.mp c94)).symm | exact (if_pos c105).symm | exact (if_neg c105).symm) (hP.sub [] rfl) (hD.sub [] (by decide) rfl) hS dMod_made_59
  · refine lv_iload_n hx hb dMod_made_0 rfl (lv_at hl 0 rfl) ?_
    refine lv_tableIn (tgt := 60) (off := 59) hx hb dMod_made_1 (by decide) (by decide) (by decide) (by decide) ?_
    refine lv_iload_n hx hb dMod_made_60 rfl (lv_at hl 1 rfl) ?_
    refine lv_iload_n hx hb dMod_made_61 rfl (lv_at hl 2 rfl) ?_
    refine lv_isub hx hb dMod_made_62 ?_
    exact hret (y - w) (()) _ _ _ (by first | rfl | exact (if_pos c69).symm | exact (if_neg c69).symm | exact (if_pos c81).symm | exact (if_neg c81).symm | exact (if_neg (Int32.not_lt.mpr c94)).symm | exact (if_pos (Int32.not_le.mp c94)).symm | exact (if_pos c105).symm | exact (if_neg c105).symm) (hP.sub [] rfl) (hD.sub [] (by decide) rfl) hS dMod_made_63
  · refine lv_iload_n hx hb dMod_made_0 rfl (lv_at hl 0 rfl) ?_
    refine lv_tableIn (tgt := 64) (off := 63) hx hb dMod_made_1 (by decide) (by decide) (by decide) (by decide) ?_
    refine lv_iload_n hx hb dMod_made_64 rfl (lv_at hl 1 rfl) ?_
    refine lv_iload_n hx hb dMod_made_65 rfl (lv_at hl 2 rfl) ?_
    refine lv_imul hx hb dMod_made_66 ?_
    exact hret (y * w) (()) _ _ _ (by first | rfl | exact (if_pos c69).symm | exact (if_neg c69).symm | exact (if_pos c81).symm | exact (if_neg c81).symm | exact (if_neg (Int32.not_lt.mpr c94)).symm | exact (if_pos (Int32.not_le.mp c94)).symm | exact (if_pos c105).symm | exact (if_neg c105).symm) (hP.sub [] rfl) (hD.sub [] (by decide) rfl) hS dMod_made_67
  · refine lv_iload_n hx hb dMod_made_0 rfl (lv_at hl 0 rfl) ?_
    refine lv_tableIn (tgt := 68) (off := 67) hx hb dMod_made_1 (by decide) (by decide) (by decide) (by decide) ?_
    refine lv_iload_n hx hb dMod_made_68 rfl (lv_at hl 2 rfl) ?_
    refine lv_if_ne (tgt := 76) hx hb dMod_made_69 (by decide) (fun c69 => ?_) (fun c69 => ?_)
    · refine lv_iload_n hx hb dMod_made_76 rfl (lv_at hl 1 rfl) ?_
      refine lv_iload_n hx hb dMod_made_77 rfl (lv_at hl 2 rfl) ?_
      refine lv_idiv hx hb dMod_made_78 (c69) ?_
      exact hret (y / w) (()) _ _ _ (by first | rfl | exact (if_pos c69).symm | exact (if_neg c69).symm | exact (if_pos c81).symm | exact (if_neg c81).symm | exact (if_neg (Int32.not_lt.mpr c94)).symm | exact (if_pos (Int32.not_le.mp c94)).symm | exact (if_pos c105).symm | exact (if_neg c105).symm) (hP.sub [] rfl) (hD.sub [] (by decide) rfl) hS dMod_made_79
    · refine lv_iconst (v := 0) hx hb dMod_made_72 (by decide) ?_
      refine lv_goto (tgt := 79) hx hb dMod_made_73 (by decide) ?_
      exact hret 0 (()) _ _ _ (by first | rfl | exact (if_pos c69).symm | exact (if_neg c69).symm | exact (if_pos c81).symm | exact (if_neg c81).symm | exact (if_neg (Int32.not_lt.mpr c94)).symm | exact (if_pos (Int32.not_le.mp c94)).symm | exact (if_pos c105).symm | exact (if_neg c105).symm) (hP.sub [] rfl) (hD.sub [] (by decide) rfl) hS dMod_made_79
  · refine lv_iload_n hx hb dMod_made_0 rfl (lv_at hl 0 rfl) ?_
    refine lv_tableIn (tgt := 80) (off := 79) hx hb dMod_made_1 (by decide) (by decide) (by decide) (by decide) ?_
    refine lv_iload_n hx hb dMod_made_80 rfl (lv_at hl 2 rfl) ?_
    refine lv_if_ne (tgt := 88) hx hb dMod_made_81 (by decide) (fun c81 => ?_) (fun c81 => ?_)
    · refine lv_iload_n hx hb dMod_made_88 rfl (lv_at hl 1 rfl) ?_
      refine lv_iload_n hx hb dMod_made_89 rfl (lv_at hl 2 rfl) ?_
      refine lv_irem hx hb dMod_made_90 (c81) ?_
      exact hret (y - y / w * w) (()) _ _ _ (by first | rfl | exact (if_pos c69).symm | exact (if_neg c69).symm | exact (if_pos c81).symm | exact (if_neg c81).symm | exact (if_neg (Int32.not_lt.mpr c94)).symm | exact (if_pos (Int32.not_le.mp c94)).symm | exact (if_pos c105).symm | exact (if_neg c105).symm) (hP.sub [] rfl) (hD.sub [] (by decide) rfl) hS dMod_made_91
    · refine lv_iload_n hx hb dMod_made_84 rfl (lv_at hl 1 rfl) ?_
      refine lv_goto (tgt := 91) hx hb dMod_made_85 (by decide) ?_
      exact hret y (()) _ _ _ (by first | rfl | exact (if_pos c69).symm | exact (if_neg c69).symm | exact (if_pos c81).symm | exact (if_neg c81).symm | exact (if_neg (Int32.not_lt.mpr c94)).symm | exact (if_pos (Int32.not_le.mp c94)).symm | exact (if_pos c105).symm | exact (if_neg c105).symm) (hP.sub [] rfl) (hD.sub [] (by decide) rfl) hS dMod_made_91
  · refine lv_iload_n hx hb dMod_made_0 rfl (lv_at hl 0 rfl) ?_
    refine lv_tableIn (tgt := 92) (off := 91) hx hb dMod_made_1 (by decide) (by decide) (by decide) (by decide) ?_
    refine lv_iload_n hx hb dMod_made_92 rfl (lv_at hl 1 rfl) ?_
    refine lv_iload_n hx hb dMod_made_93 rfl (lv_at hl 2 rfl) ?_
    refine lv_icmp_ge (tgt := 101) hx hb dMod_made_94 (by decide) (fun c94 => ?_) (fun c94 => ?_)
    · refine lv_iconst (v := 0) hx hb dMod_made_101 (by decide) ?_
      exact hret 0 (()) _ _ _ (by first | rfl | exact (if_pos c69).symm | exact (if_neg c69).symm | exact (if_pos c81).symm | exact (if_neg c81).symm | exact (if_neg (Int32.not_lt.mpr c94)).symm | exact (if_pos (Int32.not_le.mp c94)).symm | exact (if_pos c105).symm | exact (if_neg c105).symm) (hP.sub [] rfl) (hD.sub [] (by decide) rfl) hS dMod_made_102
    · refine lv_iconst (v := 1) hx hb dMod_made_97 (by decide) ?_
      refine lv_goto (tgt := 102) hx hb dMod_made_98 (by decide) ?_
      exact hret 1 (()) _ _ _ (by first | rfl | exact (if_pos c69).symm | exact (if_neg c69).symm | exact (if_pos c81).symm | exact (if_neg c81).symm | exact (if_neg (Int32.not_lt.mpr c94)).symm | exact (if_pos (Int32.not_le.mp c94)).symm | exact (if_pos c105).symm | exact (if_neg c105).symm) (hP.sub [] rfl) (hD.sub [] (by decide) rfl) hS dMod_made_102
  · refine lv_iload_n hx hb dMod_made_0 rfl (lv_at hl 0 rfl) ?_
    refine lv_tableIn (tgt := 103) (off := 102) hx hb dMod_made_1 (by decide) (by decide) (by decide) (by decide) ?_
    refine lv_iload_n hx hb dMod_made_103 rfl (lv_at hl 1 rfl) ?_
    refine lv_iload_n hx hb dMod_made_104 rfl (lv_at hl 2 rfl) ?_
    refine lv_icmp_ne (tgt := 112) hx hb dMod_made_105 (by decide) (fun c105 => ?_) (fun c105 => ?_)
    · refine lv_iconst (v := 0) hx hb dMod_made_112 (by decide) ?_
      exact hret 0 (()) _ _ _ (by first | rfl | exact (if_pos c69).symm | exact (if_neg c69).symm | exact (if_pos c81).symm | exact (if_neg c81).symm | exact (if_neg (Int32.not_lt.mpr c94)).symm | exact (if_pos (Int32.not_le.mp c94)).symm | exact (if_pos c105).symm | exact (if_neg c105).symm) (hP.sub [] rfl) (hD.sub [] (by decide) rfl) hS dMod_made_113
    · refine lv_iconst (v := 1) hx hb dMod_made_108 (by decide) ?_
      refine lv_goto (tgt := 113) hx hb dMod_made_109 (by decide) ?_
      exact hret 1 (()) _ _ _ (by first | rfl | exact (if_pos c69).symm | exact (if_neg c69).symm | exact (if_pos c81).symm | exact (if_neg c81).symm | exact (if_neg (Int32.not_lt.mpr c94)).symm | exact (if_pos (Int32.not_le.mp c94)).symm | exact (if_pos c105).symm | exact (if_neg c105).symm) (hP.sub [] rfl) (hD.sub [] (by decide) rfl) hS dMod_made_113
  · refine lv_iload_n hx hb dMod_made_0 rfl (lv_at hl 0 rfl) ?_
    refine lv_tableIn (tgt := 114) (off := 113) hx hb dMod_made_1 (by decide) (by decide) (by decide) (by decide) ?_
    refine lv_iload_n hx hb dMod_made_114 rfl (lv_at hl 1 rfl) ?_
    refine lv_iload_n hx hb dMod_made_115 rfl (lv_at hl 2 rfl) ?_
    refine lv_iand hx hb dMod_made_116 ?_
    exact hret (y &&& w) (()) _ _ _ (by first | rfl | exact (if_pos c69).symm | exact (if_neg c69).symm | exact (if_pos c81).symm | exact (if_neg c81).symm | exact (if_neg (Int32.not_lt.mpr c94)).symm | exact (if_pos (Int32.not_le.mp c94)).symm | exact (if_pos c105).symm | exact (if_neg c105).symm) (hP.sub [] rfl) (hD.sub [] (by decide) rfl) hS dMod_made_117
  · refine lv_iload_n hx hb dMod_made_0 rfl (lv_at hl 0 rfl) ?_
    refine lv_tableIn (tgt := 118) (off := 117) hx hb dMod_made_1 (by decide) (by decide) (by decide) (by decide) ?_
    refine lv_iload_n hx hb dMod_made_118 rfl (lv_at hl 1 rfl) ?_
    refine lv_iload_n hx hb dMod_made_119 rfl (lv_at hl 2 rfl) ?_
    refine lv_ior hx hb dMod_made_120 ?_
    exact hret (y ||| w) (()) _ _ _ (by first | rfl | exact (if_pos c69).symm | exact (if_neg c69).symm | exact (if_pos c81).symm | exact (if_neg c81).symm | exact (if_neg (Int32.not_lt.mpr c94)).symm | exact (if_pos (Int32.not_le.mp c94)).symm | exact (if_pos c105).symm | exact (if_neg c105).symm) (hP.sub [] rfl) (hD.sub [] (by decide) rfl) hS dMod_made_121
  · refine lv_iload_n hx hb dMod_made_0 rfl (lv_at hl 0 rfl) ?_
    refine lv_tableOut (tgt := 122) hx hb dMod_made_1 (by decide) (by decide) ?_
    refine lv_iload_n hx hb dMod_made_122 rfl (lv_at hl 1 rfl) ?_
    refine lv_iload_n hx hb dMod_made_123 rfl (lv_at hl 2 rfl) ?_
    refine lv_ixor hx hb dMod_made_124 ?_
    exact hret (y ^^^ w) (()) _ _ _ (by first | rfl | exact (if_pos c69).symm | exact (if_neg c69).symm | exact (if_pos c81).symm | exact (if_neg c81).symm | exact (if_neg (Int32.not_lt.mpr c94)).symm | exact (if_pos (Int32.not_le.mp c94)).symm | exact (if_pos c105).symm | exact (if_neg c105).symm) (hP.sub [] rfl) (hD.sub [] (by decide) rfl) hS dMod_made_125

set_option maxHeartbeats 4000000 in
set_option maxRecDepth 100000 in
theorem kM_price (l : Launch) (dC : Nat → ClassId) (dI : Nat → Nat → Nat) (kI kJ kZ : ClassId) (m0 : Nat) (b1 : Nat) (b2 : Nat) (b3 : Nat) (b4 : Nat) (b5 : Nat) (b6 : Nat) (b7 : Nat) (b8 : Nat) (b9 : Nat) (b10 : Nat) (b11 : Nat) (b12 : Nat) (b13 : Nat) (b14 : Nat) (b15 : Nat) (b16 : Nat) (b17 : Nat) (b18 : Nat) (b19 : Nat) (b20 : Nat) (b21 : Nat) (b22 : Nat) (b23 : Nat) (b24 : Nat) (nA : Nat) (kn : Nat) (ln : Nat) (an : Nat) (f0 : Int32) (f2 : Int32) (f3 : Int32) (f4 : Int32) (f5 : Int32) (D : Nat) (sk : Nat → Int32) (ht : Nat → Nat) (rc : Nat → Nat) (ka : Nat → Int32) (kN : Nat → Int32) (kv : Nat → Int32) (h : Nat) (σ : Int64 → Int32) (op : Nat) (hD8 : D < 8) (hh : ht D = h) (hle : h ≤ 32) (hop : op < 30) (hms : MST ka kN kv kn σ) :
    XM stX l yMod_price wMod_price { frames := 2, cells := 0, slots := 0, locals := 46 } (dC, dI) xCl (x_T kI kJ kZ) [(m0, .inr (6, [.int f0, .int (nI nA), .ref b1, .ref b2, .ref b3, .ref b4, .ref b5, .ref b6, .ref b7, .int (nI kn), .ref b8, .int (nI ln), .ref b9, .ref b10, .ref b11, .ref b12, .ref b13, .ref b14, .int (nI D), .ref b15, .ref b16, .ref b17, .ref b18, .ref b19, .ref b20, .ref b21, .ref b22, .ref b23, .ref b24, .int (nI an), .int f2, .int f3, .int f4, .int f5])), (b15, .inl (kI, 256, .inl sk)), (b16, .inl (kI, 8, .inl (fun j => nI (ht j)))), (b23, .inl (kI, 8, .inl (fun j => nI (rc j)))), (b5, .inl (kI, 500, .inl ka)), (b6, .inl (kI, 500, .inl kN)), (b7, .inl (kI, 500, .inl kv))] [.ref m0, .int (nI op)] 0 0 x_eI (fun (r : Int32) (u : Unit) => r = nI (xPrice op (fun i => sk (32 * D + i)) h σ (rc D))) (fun (u : Unit) => [(m0, .inr (6, [.int f0, .int (nI nA), .ref b1, .ref b2, .ref b3, .ref b4, .ref b5, .ref b6, .ref b7, .int (nI kn), .ref b8, .int (nI ln), .ref b9, .ref b10, .ref b11, .ref b12, .ref b13, .ref b14, .int (nI D), .ref b15, .ref b16, .ref b17, .ref b18, .ref b19, .ref b20, .ref b21, .ref b22, .ref b23, .ref b24, .int (nI an), .int f2, .int f3, .int f4, .int f5])), (b15, .inl (kI, 256, .inl sk)), (b16, .inl (kI, 8, .inl (fun j => nI (ht j)))), (b23, .inl (kI, 8, .inl (fun j => nI (rc j)))), (b5, .inl (kI, 500, .inl ka)), (b6, .inl (kI, 500, .inl kN)), (b7, .inl (kI, 500, .inl kv))]) := by
  refine XM.ofI (cc := cMod_price) (maxL := 4) (by decide) rfl (Nat.le_of_ble_eq_true rfl) ?_
  intro p e s m below meth c A Q hx hb hr hml hown hts hlocks hin hA hK hP hD hX hS ls hl hret
  have hl : lv_has ls 4 [(0, .ref m0), (1, .int (nI op))] := hl
  refine lv_aload_n hx hb dMod_price_0 rfl (lv_at hl 0 rfl) ?_
  refine va_get (D := (dC, dI)) (ci := 6) (v := .ref b16) (C := RMod) (T := TMod) (N := 34) hx hb hts (fun w h => List.mem_cons_of_mem _ (layMod w h)) hown hK hP 0 rfl rfl 20 (by decide) (hts (.fieldLink RMod 56 "CallLedgerModel" "heights" "[I") (List.mem_cons_of_mem _ gw664)) (fun _ h9 => h9) rfl dMod_price_1 ?_
  refine lv_aload_n hx hb dMod_price_4 rfl (lv_at hl 0 rfl) ?_
  refine va_get (D := (dC, dI)) (ci := 6) (v := .int (nI D)) (C := RMod) (T := TMod) (N := 34) hx hb hts (fun w h => List.mem_cons_of_mem _ (layMod w h)) hown hK hP 0 rfl rfl 18 (by decide) (hts (.fieldLink RMod 126 "CallLedgerModel" "depth" "I") (List.mem_cons_of_mem _ gw662)) (fun _ h9 => h9) rfl dMod_price_5 ?_
  refine x_iald (j := D) hx hb hK hP 2 0 rfl rfl rfl (by omega) (by omega) dMod_price_8 ?_
  refine x_topi (y := nI h) (by rw [hh]) ?_
  refine lv_iconst (v := 1) hx hb dMod_price_9 (by decide) ?_
  refine lv_icmp_le (tgt := 17) hx hb dMod_price_10 (by decide) (fun c10 => ?_) (fun c10 => ?_)
  · have c10 : h ≤ 1 := (nI_leI (a := h) (b := 1) (by omega) (by omega)).mp c10
    refine lv_iconst (v := 0) hx hb dMod_price_17 (by decide) ?_
    refine lv_istore_n (lv' := [(2, .int 0), (0, .ref m0), (1, .int (nI op))]) hx hb dMod_price_18 rfl hl (by decide) rfl (fun ls hl => ?_)
    refine lv_iload_n hx hb dMod_price_19 rfl (lv_at hl 2 rfl) ?_
    refine lv_bipush (v := 19) hx hb dMod_price_20 (by decide) ?_
    refine lv_icmp_ne (tgt := 81) hx hb dMod_price_22 (by decide) (fun c22 => ?_) (fun c22 => ?_)
    · have c22 : ¬ (op = 19) := fun z9 => c22 ((nI_eq (a := op) (b := 19) (by omega) (by omega)).mpr z9)
      refine lv_iload_n hx hb dMod_price_81 rfl (lv_at hl 2 rfl) ?_
      refine lv_bipush (v := 27) hx hb dMod_price_82 (by decide) ?_
      refine lv_icmp_ne (tgt := 107) hx hb dMod_price_84 (by decide) (fun c84 => ?_) (fun c84 => ?_)
      · have c84 : ¬ (op = 27) := fun z9 => c84 ((nI_eq (a := op) (b := 27) (by omega) (by omega)).mpr z9)
        refine lv_iload_n hx hb dMod_price_107 rfl (lv_at hl 2 rfl) ?_
        refine XM.callSi (As := [.int (nI op)]) (rest := []) (wr := [(m0, .inr (6, [.int f0, .int (nI nA), .ref b1, .ref b2, .ref b3, .ref b4, .ref b5, .ref b6, .ref b7, .int (nI kn), .ref b8, .int (nI ln), .ref b9, .ref b10, .ref b11, .ref b12, .ref b13, .ref b14, .int (nI D), .ref b15, .ref b16, .ref b17, .ref b18, .ref b19, .ref b20, .ref b21, .ref b22, .ref b23, .ref b24, .int (nI an), .int f2, .int f3, .int f4, .int f5])), (b15, .inl (kI, 256, .inl sk)), (b16, .inl (kI, 8, .inl (fun j => nI (ht j)))), (b23, .inl (kI, 8, .inl (fun j => nI (rc j)))), (b5, .inl (kI, 500, .inl ka)), (b6, .inl (kI, 500, .inl kN)), (b7, .inl (kI, 500, .inl kv))]) stX_ok ⟨hx, hb, hml, hown, hts⟩ (kM_priceOf l dC dI kI kJ kZ op (by first | assumption | omega) (by first | assumption | omega) (by first | assumption | omega)) (va_cwS 1 hts (x_gS gw848 gw849 gw43 gw850) rfl rfl rfl (by decide +kernel) ⟨Nat.le_of_ble_eq_true rfl, Nat.le_of_ble_eq_true rfl⟩) hK hP hD hS hA hX [] [0, 1, 2, 3, 4, 5, 6] rfl rfl (by decide) (by decide) (by decide) rfl rfl hl.1 (Nat.le_of_ble_eq_true rfl) dMod_price_108 ⟨Nat.le_of_ble_eq_true rfl, Nat.le_of_ble_eq_true rfl⟩ (fun r_2 u_1 H locs hw hP hD hS => ?_)
        obtain rfl := hw
        have hP : va_P (dC, dI) xCl [(m0, .inr (6, [.int f0, .int (nI nA), .ref b1, .ref b2, .ref b3, .ref b4, .ref b5, .ref b6, .ref b7, .int (nI kn), .ref b8, .int (nI ln), .ref b9, .ref b10, .ref b11, .ref b12, .ref b13, .ref b14, .int (nI D), .ref b15, .ref b16, .ref b17, .ref b18, .ref b19, .ref b20, .ref b21, .ref b22, .ref b23, .ref b24, .int (nI an), .int f2, .int f3, .int f4, .int f5])), (b15, .inl (kI, 256, .inl sk)), (b16, .inl (kI, 8, .inl (fun j => nI (ht j)))), (b23, .inl (kI, 8, .inl (fun j => nI (rc j)))), (b5, .inl (kI, 500, .inl ka)), (b6, .inl (kI, 500, .inl kN)), (b7, .inl (kI, 500, .inl kv))] H := hP
        have hD : va_D A [(m0, .inr (6, [.int f0, .int (nI nA), .ref b1, .ref b2, .ref b3, .ref b4, .ref b5, .ref b6, .ref b7, .int (nI kn), .ref b8, .int (nI ln), .ref b9, .ref b10, .ref b11, .ref b12, .ref b13, .ref b14, .int (nI D), .ref b15, .ref b16, .ref b17, .ref b18, .ref b19, .ref b20, .ref b21, .ref b22, .ref b23, .ref b24, .int (nI an), .int f2, .int f3, .int f4, .int f5])), (b15, .inl (kI, 256, .inl sk)), (b16, .inl (kI, 8, .inl (fun j => nI (ht j)))), (b23, .inl (kI, 8, .inl (fun j => nI (rc j)))), (b5, .inl (kI, 500, .inl ka)), (b6, .inl (kI, 500, .inl kN)), (b7, .inl (kI, 500, .inl kv))] := hD
        exact hret (nI (xPr op)) (()) _ _ _ (mP8 (sf := fun i => sk (32 * D + i)) (sn := h) (σ := σ) (ac := rc D) c22 c84) (hP.sub [0, 1, 2, 3, 4, 5, 6] rfl) (hD.sub [0, 1, 2, 3, 4, 5, 6] (by decide) rfl) hS dMod_price_111
      · have c84 : op = 27 := (nI_eq (a := op) (b := 27) (by omega) (by omega)).mp c84
        refine lv_iload_n hx hb dMod_price_87 rfl (lv_at hl 0 rfl) ?_
        refine lv_if_eq (tgt := 104) hx hb dMod_price_88 (by decide) (fun c88 => ?_) (fun c88 => ?_)
        · refine lv_bipush (v := 25) hx hb dMod_price_104 (by decide) ?_
          exact hret 25 (()) _ _ _ (by first | exact mP5 (sf := fun i => sk (32 * D + i)) (sn := h) (σ := σ) (ac := rc D) c22 c84 (m_le1 c10) | exact mP6 (sf := fun i => sk (32 * D + i)) (sn := h) (σ := σ) (ac := rc D) c22 c84 c96) (hP.sub [0, 1, 2, 3, 4, 5, 6] rfl) (hD.sub [0, 1, 2, 3, 4, 5, 6] (by decide) rfl) hS dMod_price_106
        · exact absurd c88 (by decide)
    · have c22 : op = 19 := (nI_eq (a := op) (b := 19) (by omega) (by omega)).mp c22
      refine lv_iload_n hx hb dMod_price_25 rfl (lv_at hl 0 rfl) ?_
      refine lv_if_eq (tgt := 50) hx hb dMod_price_26 (by decide) (fun c26 => ?_) (fun c26 => ?_)
      · refine lv_iconst (v := 0) hx hb dMod_price_50 (by decide) ?_
        refine lv_istore_n (lv' := [(3, .int 0), (2, .int 0), (0, .ref m0), (1, .int (nI op))]) hx hb dMod_price_51 rfl hl (by decide) rfl (fun ls hl => ?_)
        refine lv_iload_n hx hb dMod_price_52 rfl (lv_at hl 1 rfl) ?_
        refine lv_if_eq (tgt := 65) hx hb dMod_price_53 (by decide) (fun c53 => ?_) (fun c53 => ?_)
        · refine lv_iconst (v := 5) hx hb dMod_price_65 (by decide) ?_
          refine lv_goto (tgt := 80) hx hb dMod_price_66 (by decide) ?_
          exact hret 5 (()) _ _ _ (by first | exact mP1 (sf := fun i => sk (32 * D + i)) (sn := h) (σ := σ) (ac := rc D) c22 (m_le1 c10) | exact mP2 (sf := fun i => sk (32 * D + i)) (sn := h) (σ := σ) (ac := rc D) c22 (m_nle1 c10) c62) (hP.sub [0, 1, 2, 3, 4, 5, 6] rfl) (hD.sub [0, 1, 2, 3, 4, 5, 6] (by decide) rfl) hS dMod_price_80
        · exact absurd c53 (by decide)
      · exact absurd c26 (by decide)
  · have c10 : ¬ (h ≤ 1) := fun z9 => c10 ((nI_leI (a := h) (b := 1) (by omega) (by omega)).mpr z9)
    refine lv_iconst (v := 1) hx hb dMod_price_13 (by decide) ?_
    refine lv_goto (tgt := 18) hx hb dMod_price_14 (by decide) ?_
    refine lv_istore_n (lv' := [(2, .int 1), (0, .ref m0), (1, .int (nI op))]) hx hb dMod_price_18 rfl hl (by decide) rfl (fun ls hl => ?_)
    refine lv_iload_n hx hb dMod_price_19 rfl (lv_at hl 2 rfl) ?_
    refine lv_bipush (v := 19) hx hb dMod_price_20 (by decide) ?_
    refine lv_icmp_ne (tgt := 81) hx hb dMod_price_22 (by decide) (fun c22 => ?_) (fun c22 => ?_)
    · have c22 : ¬ (op = 19) := fun z9 => c22 ((nI_eq (a := op) (b := 19) (by omega) (by omega)).mpr z9)
      refine lv_iload_n hx hb dMod_price_81 rfl (lv_at hl 2 rfl) ?_
      refine lv_bipush (v := 27) hx hb dMod_price_82 (by decide) ?_
      refine lv_icmp_ne (tgt := 107) hx hb dMod_price_84 (by decide) (fun c84 => ?_) (fun c84 => ?_)
      · have c84 : ¬ (op = 27) := fun z9 => c84 ((nI_eq (a := op) (b := 27) (by omega) (by omega)).mpr z9)
        refine lv_iload_n hx hb dMod_price_107 rfl (lv_at hl 2 rfl) ?_
        refine XM.callSi (As := [.int (nI op)]) (rest := []) (wr := [(m0, .inr (6, [.int f0, .int (nI nA), .ref b1, .ref b2, .ref b3, .ref b4, .ref b5, .ref b6, .ref b7, .int (nI kn), .ref b8, .int (nI ln), .ref b9, .ref b10, .ref b11, .ref b12, .ref b13, .ref b14, .int (nI D), .ref b15, .ref b16, .ref b17, .ref b18, .ref b19, .ref b20, .ref b21, .ref b22, .ref b23, .ref b24, .int (nI an), .int f2, .int f3, .int f4, .int f5])), (b15, .inl (kI, 256, .inl sk)), (b16, .inl (kI, 8, .inl (fun j => nI (ht j)))), (b23, .inl (kI, 8, .inl (fun j => nI (rc j)))), (b5, .inl (kI, 500, .inl ka)), (b6, .inl (kI, 500, .inl kN)), (b7, .inl (kI, 500, .inl kv))]) stX_ok ⟨hx, hb, hml, hown, hts⟩ (kM_priceOf l dC dI kI kJ kZ op (by first | assumption | omega) (by first | assumption | omega) (by first | assumption | omega)) (va_cwS 1 hts (x_gS gw848 gw849 gw43 gw850) rfl rfl rfl (by decide +kernel) ⟨Nat.le_of_ble_eq_true rfl, Nat.le_of_ble_eq_true rfl⟩) hK hP hD hS hA hX [] [0, 1, 2, 3, 4, 5, 6] rfl rfl (by decide) (by decide) (by decide) rfl rfl hl.1 (Nat.le_of_ble_eq_true rfl) dMod_price_108 ⟨Nat.le_of_ble_eq_true rfl, Nat.le_of_ble_eq_true rfl⟩ (fun r_4 u_3 H locs hw hP hD hS => ?_)
        obtain rfl := hw
        have hP : va_P (dC, dI) xCl [(m0, .inr (6, [.int f0, .int (nI nA), .ref b1, .ref b2, .ref b3, .ref b4, .ref b5, .ref b6, .ref b7, .int (nI kn), .ref b8, .int (nI ln), .ref b9, .ref b10, .ref b11, .ref b12, .ref b13, .ref b14, .int (nI D), .ref b15, .ref b16, .ref b17, .ref b18, .ref b19, .ref b20, .ref b21, .ref b22, .ref b23, .ref b24, .int (nI an), .int f2, .int f3, .int f4, .int f5])), (b15, .inl (kI, 256, .inl sk)), (b16, .inl (kI, 8, .inl (fun j => nI (ht j)))), (b23, .inl (kI, 8, .inl (fun j => nI (rc j)))), (b5, .inl (kI, 500, .inl ka)), (b6, .inl (kI, 500, .inl kN)), (b7, .inl (kI, 500, .inl kv))] H := hP
        have hD : va_D A [(m0, .inr (6, [.int f0, .int (nI nA), .ref b1, .ref b2, .ref b3, .ref b4, .ref b5, .ref b6, .ref b7, .int (nI kn), .ref b8, .int (nI ln), .ref b9, .ref b10, .ref b11, .ref b12, .ref b13, .ref b14, .int (nI D), .ref b15, .ref b16, .ref b17, .ref b18, .ref b19, .ref b20, .ref b21, .ref b22, .ref b23, .ref b24, .int (nI an), .int f2, .int f3, .int f4, .int f5])), (b15, .inl (kI, 256, .inl sk)), (b16, .inl (kI, 8, .inl (fun j => nI (ht j)))), (b23, .inl (kI, 8, .inl (fun j => nI (rc j)))), (b5, .inl (kI, 500, .inl ka)), (b6, .inl (kI, 500, .inl kN)), (b7, .inl (kI, 500, .inl kv))] := hD
        exact hret (nI (xPr op)) (()) _ _ _ (mP8 (sf := fun i => sk (32 * D + i)) (sn := h) (σ := σ) (ac := rc D) c22 c84) (hP.sub [0, 1, 2, 3, 4, 5, 6] rfl) (hD.sub [0, 1, 2, 3, 4, 5, 6] (by decide) rfl) hS dMod_price_111
      · have c84 : op = 27 := (nI_eq (a := op) (b := 27) (by omega) (by omega)).mp c84
        refine lv_iload_n hx hb dMod_price_87 rfl (lv_at hl 0 rfl) ?_
        refine lv_if_eq (tgt := 104) hx hb dMod_price_88 (by decide) (fun c88 => ?_) (fun c88 => ?_)
        · exact absurd c88 (by decide)
        · refine lv_aload_n hx hb dMod_price_91 rfl (lv_at hl 1 rfl) ?_
          refine lv_iconst (v := 1) hx hb dMod_price_92 (by decide) ?_
          refine XM.callVi (As := [.int 1]) (rest := []) (wr := [(b23, .inl (kI, 8, .inl (fun j => nI (rc j)))), (b5, .inl (kI, 500, .inl ka)), (b6, .inl (kI, 500, .inl kN)), (b7, .inl (kI, 500, .inl kv))]) stX_ok ⟨hx, hb, hml, hown, hts⟩ (kM_below l dC dI kI kJ kZ m0 b1 b2 b3 b4 b5 b6 b7 b8 b9 b10 b11 b12 b13 b14 b15 b16 b17 b18 b19 b20 b21 b22 b23 b24 nA kn ln an f0 f2 f3 f4 f5 D sk ht h 1 (by first | assumption | omega) (by first | assumption | rfl | exact va_up_at) (by first | assumption | omega) (by first | assumption | omega)) (cwV 1 hts (x_gV gw844 gw846 gw28 gw43 gw847) rfl rfl rfl (by decide +kernel) ⟨Nat.le_of_ble_eq_true rfl, Nat.le_of_ble_eq_true rfl⟩) hK hP hD hS hA hX [0, 1, 2] [3, 4, 5, 6] rfl rfl (by decide) (by decide) (by decide) rfl rfl rfl rfl hl.1 (Nat.le_of_ble_eq_true rfl) dMod_price_93 ⟨Nat.le_of_ble_eq_true rfl, Nat.le_of_ble_eq_true rfl⟩ (fun r_6 u_5 H locs hw hP hD hS => ?_)
          obtain rfl := hw
          have hP : va_P (dC, dI) xCl [(b23, .inl (kI, 8, .inl (fun j => nI (rc j)))), (b5, .inl (kI, 500, .inl ka)), (b6, .inl (kI, 500, .inl kN)), (b7, .inl (kI, 500, .inl kv)), (m0, .inr (6, [.int f0, .int (nI nA), .ref b1, .ref b2, .ref b3, .ref b4, .ref b5, .ref b6, .ref b7, .int (nI kn), .ref b8, .int (nI ln), .ref b9, .ref b10, .ref b11, .ref b12, .ref b13, .ref b14, .int (nI D), .ref b15, .ref b16, .ref b17, .ref b18, .ref b19, .ref b20, .ref b21, .ref b22, .ref b23, .ref b24, .int (nI an), .int f2, .int f3, .int f4, .int f5])), (b15, .inl (kI, 256, .inl sk)), (b16, .inl (kI, 8, .inl (fun j => nI (ht j))))] H := hP
          have hD : va_D A [(b23, .inl (kI, 8, .inl (fun j => nI (rc j)))), (b5, .inl (kI, 500, .inl ka)), (b6, .inl (kI, 500, .inl kN)), (b7, .inl (kI, 500, .inl kv)), (m0, .inr (6, [.int f0, .int (nI nA), .ref b1, .ref b2, .ref b3, .ref b4, .ref b5, .ref b6, .ref b7, .int (nI kn), .ref b8, .int (nI ln), .ref b9, .ref b10, .ref b11, .ref b12, .ref b13, .ref b14, .int (nI D), .ref b15, .ref b16, .ref b17, .ref b18, .ref b19, .ref b20, .ref b21, .ref b22, .ref b23, .ref b24, .int (nI an), .int f2, .int f3, .int f4, .int f5])), (b15, .inl (kI, 256, .inl sk)), (b16, .inl (kI, 8, .inl (fun j => nI (ht j))))] := hD
          refine lv_if_eq (tgt := 104) hx hb dMod_price_96 (by decide) (fun c96 => ?_) (fun c96 => ?_)
          · refine lv_bipush (v := 25) hx hb dMod_price_104 (by decide) ?_
            exact hret 25 (()) _ _ _ (by first | exact mP5 (sf := fun i => sk (32 * D + i)) (sn := h) (σ := σ) (ac := rc D) c22 c84 (m_le1 c10) | exact mP6 (sf := fun i => sk (32 * D + i)) (sn := h) (σ := σ) (ac := rc D) c22 c84 c96) (hP.sub [4, 5, 6, 0, 1, 2, 3] rfl) (hD.sub [4, 5, 6, 0, 1, 2, 3] (by decide) rfl) hS dMod_price_106
          · refine lv_bipush (v := 40) hx hb dMod_price_99 (by decide) ?_
            refine lv_goto (tgt := 106) hx hb dMod_price_101 (by decide) ?_
            exact hret 40 (()) _ _ _ (by first | exact mP3 (sf := fun i => sk (32 * D + i)) (sn := h) (σ := σ) (ac := rc D) c22 (m_nle1 c10) c62 c70 | exact mP7 (sf := fun i => sk (32 * D + i)) (sn := h) (σ := σ) (ac := rc D) c22 c84 (m_nle1 c10) c96) (hP.sub [4, 5, 6, 0, 1, 2, 3] rfl) (hD.sub [4, 5, 6, 0, 1, 2, 3] (by decide) rfl) hS dMod_price_106
    · have c22 : op = 19 := (nI_eq (a := op) (b := 19) (by omega) (by omega)).mp c22
      refine lv_iload_n hx hb dMod_price_25 rfl (lv_at hl 0 rfl) ?_
      refine lv_if_eq (tgt := 50) hx hb dMod_price_26 (by decide) (fun c26 => ?_) (fun c26 => ?_)
      · exact absurd c26 (by decide)
      · refine lv_aload_n hx hb dMod_price_29 rfl (lv_at hl 1 rfl) ?_
        refine lv_aload_n hx hb dMod_price_30 rfl (lv_at hl 1 rfl) ?_
        refine va_get (D := (dC, dI)) (ci := 6) (v := .ref b23) (C := RMod) (T := TMod) (N := 34) hx hb hts (fun w h => List.mem_cons_of_mem _ (layMod w h)) hown hK hP 0 rfl rfl 27 (by decide) (hts (.fieldLink RMod 77 "CallLedgerModel" "runAccounts" "[I") (List.mem_cons_of_mem _ gw671)) (fun _ h9 => h9) rfl dMod_price_31 ?_
        refine lv_aload_n hx hb dMod_price_34 rfl (lv_at hl 1 rfl) ?_
        refine va_get (D := (dC, dI)) (ci := 6) (v := .int (nI D)) (C := RMod) (T := TMod) (N := 34) hx hb hts (fun w h => List.mem_cons_of_mem _ (layMod w h)) hown hK hP 0 rfl rfl 18 (by decide) (hts (.fieldLink RMod 126 "CallLedgerModel" "depth" "I") (List.mem_cons_of_mem _ gw662)) (fun _ h9 => h9) rfl dMod_price_35 ?_
        refine x_iald (j := D) hx hb hK hP 3 0 rfl rfl rfl (by omega) (by omega) dMod_price_38 ?_
        refine lv_aload_n hx hb dMod_price_39 rfl (lv_at hl 1 rfl) ?_
        refine lv_iconst (v := 1) hx hb dMod_price_40 (by decide) ?_
        refine XM.callVi (As := [.int 1]) (rest := [.int (nI (rc D)), .ref m0]) (wr := [(b23, .inl (kI, 8, .inl (fun j => nI (rc j)))), (b5, .inl (kI, 500, .inl ka)), (b6, .inl (kI, 500, .inl kN)), (b7, .inl (kI, 500, .inl kv))]) stX_ok ⟨hx, hb, hml, hown, hts⟩ (kM_below l dC dI kI kJ kZ m0 b1 b2 b3 b4 b5 b6 b7 b8 b9 b10 b11 b12 b13 b14 b15 b16 b17 b18 b19 b20 b21 b22 b23 b24 nA kn ln an f0 f2 f3 f4 f5 D sk ht h 1 (by first | assumption | omega) (by first | assumption | rfl | exact va_up_at) (by first | assumption | omega) (by first | assumption | omega)) (cwV 1 hts (x_gV gw844 gw846 gw28 gw43 gw847) rfl rfl rfl (by decide +kernel) ⟨Nat.le_of_ble_eq_true rfl, Nat.le_of_ble_eq_true rfl⟩) hK hP hD hS hA hX [0, 1, 2] [3, 4, 5, 6] rfl rfl (by decide) (by decide) (by decide) rfl rfl rfl rfl hl.1 (Nat.le_of_ble_eq_true rfl) dMod_price_41 ⟨Nat.le_of_ble_eq_true rfl, Nat.le_of_ble_eq_true rfl⟩ (fun r_8 u_7 H locs hw hP hD hS => ?_)
        obtain rfl := hw
        have hP : va_P (dC, dI) xCl [(b23, .inl (kI, 8, .inl (fun j => nI (rc j)))), (b5, .inl (kI, 500, .inl ka)), (b6, .inl (kI, 500, .inl kN)), (b7, .inl (kI, 500, .inl kv)), (m0, .inr (6, [.int f0, .int (nI nA), .ref b1, .ref b2, .ref b3, .ref b4, .ref b5, .ref b6, .ref b7, .int (nI kn), .ref b8, .int (nI ln), .ref b9, .ref b10, .ref b11, .ref b12, .ref b13, .ref b14, .int (nI D), .ref b15, .ref b16, .ref b17, .ref b18, .ref b19, .ref b20, .ref b21, .ref b22, .ref b23, .ref b24, .int (nI an), .int f2, .int f3, .int f4, .int f5])), (b15, .inl (kI, 256, .inl sk)), (b16, .inl (kI, 8, .inl (fun j => nI (ht j))))] H := hP
        have hD : va_D A [(b23, .inl (kI, 8, .inl (fun j => nI (rc j)))), (b5, .inl (kI, 500, .inl ka)), (b6, .inl (kI, 500, .inl kN)), (b7, .inl (kI, 500, .inl kv)), (m0, .inr (6, [.int f0, .int (nI nA), .ref b1, .ref b2, .ref b3, .ref b4, .ref b5, .ref b6, .ref b7, .int (nI kn), .ref b8, .int (nI ln), .ref b9, .ref b10, .ref b11, .ref b12, .ref b13, .ref b14, .int (nI D), .ref b15, .ref b16, .ref b17, .ref b18, .ref b19, .ref b20, .ref b21, .ref b22, .ref b23, .ref b24, .int (nI an), .int f2, .int f3, .int f4, .int f5])), (b15, .inl (kI, 256, .inl sk)), (b16, .inl (kI, 8, .inl (fun j => nI (ht j))))] := hD
        refine XM.callVi (As := [.int (nI (rc D)), .int (sk (32 * D + (h - 1 - 1)))]) (rest := []) (wr := [(b23, .inl (kI, 8, .inl (fun j => nI (rc j)))), (b15, .inl (kI, 256, .inl sk)), (b16, .inl (kI, 8, .inl (fun j => nI (ht j))))]) stX_ok ⟨hx, hb, hml, hown, hts⟩ (kM_stored l dC dI kI kJ kZ m0 b1 b2 b3 b4 b5 b6 b7 b8 b9 b10 b11 b12 b13 b14 b15 b16 b17 b18 b19 b20 b21 b22 b23 b24 nA kn ln an f0 f2 f3 f4 f5 (nI D) ka kN kv σ (nI (rc D)) (sk (32 * D + (h - 1 - 1))) (by first | assumption | omega)) (cwV 2 hts (x_gV gw788 gw790 gw20 gw43 gw791) rfl rfl rfl (by decide +kernel) ⟨Nat.le_of_ble_eq_true rfl, Nat.le_of_ble_eq_true rfl⟩) hK hP hD hS hA hX [4, 1, 2, 3] [0, 5, 6] rfl rfl (by decide) (by decide) (by decide) rfl rfl rfl rfl hl.1 (Nat.le_of_ble_eq_true rfl) dMod_price_44 ⟨Nat.le_of_ble_eq_true rfl, Nat.le_of_ble_eq_true rfl⟩ (fun r_10 u_9 H locs hw hP hD hS => ?_)
        obtain rfl := hw
        have hP : va_P (dC, dI) xCl [(b23, .inl (kI, 8, .inl (fun j => nI (rc j)))), (b15, .inl (kI, 256, .inl sk)), (b16, .inl (kI, 8, .inl (fun j => nI (ht j)))), (m0, .inr (6, [.int f0, .int (nI nA), .ref b1, .ref b2, .ref b3, .ref b4, .ref b5, .ref b6, .ref b7, .int (nI kn), .ref b8, .int (nI ln), .ref b9, .ref b10, .ref b11, .ref b12, .ref b13, .ref b14, .int (nI D), .ref b15, .ref b16, .ref b17, .ref b18, .ref b19, .ref b20, .ref b21, .ref b22, .ref b23, .ref b24, .int (nI an), .int f2, .int f3, .int f4, .int f5])), (b5, .inl (kI, 500, .inl ka)), (b6, .inl (kI, 500, .inl kN)), (b7, .inl (kI, 500, .inl kv))] H := hP
        have hD : va_D A [(b23, .inl (kI, 8, .inl (fun j => nI (rc j)))), (b15, .inl (kI, 256, .inl sk)), (b16, .inl (kI, 8, .inl (fun j => nI (ht j)))), (m0, .inr (6, [.int f0, .int (nI nA), .ref b1, .ref b2, .ref b3, .ref b4, .ref b5, .ref b6, .ref b7, .int (nI kn), .ref b8, .int (nI ln), .ref b9, .ref b10, .ref b11, .ref b12, .ref b13, .ref b14, .int (nI D), .ref b15, .ref b16, .ref b17, .ref b18, .ref b19, .ref b20, .ref b21, .ref b22, .ref b23, .ref b24, .int (nI an), .int f2, .int f3, .int f4, .int f5])), (b5, .inl (kI, 500, .inl ka)), (b6, .inl (kI, 500, .inl kN)), (b7, .inl (kI, 500, .inl kv))] := hD
        refine lv_goto (tgt := 51) hx hb dMod_price_47 (by decide) ?_
        refine lv_istore_n (lv' := [(3, .int (σ (xSlot (nI (rc D)) (sk (32 * D + (h - 1 - 1)))))), (2, .int 1), (0, .ref m0), (1, .int (nI op))]) hx hb dMod_price_51 rfl hl (by decide) rfl (fun ls hl => ?_)
        refine lv_iload_n hx hb dMod_price_52 rfl (lv_at hl 1 rfl) ?_
        refine lv_if_eq (tgt := 65) hx hb dMod_price_53 (by decide) (fun c53 => ?_) (fun c53 => ?_)
        · exact absurd c53 (by decide)
        · refine lv_iload_n hx hb dMod_price_56 rfl (lv_at hl 0 rfl) ?_
          refine lv_aload_n hx hb dMod_price_57 rfl (lv_at hl 2 rfl) ?_
          refine lv_iconst (v := 0) hx hb dMod_price_58 (by decide) ?_
          refine XM.callVi (As := [.int 0]) (rest := [.int (σ (xSlot (nI (rc D)) (sk (32 * D + (h - 1 - 1)))))]) (wr := [(b23, .inl (kI, 8, .inl (fun j => nI (rc j)))), (b5, .inl (kI, 500, .inl ka)), (b6, .inl (kI, 500, .inl kN)), (b7, .inl (kI, 500, .inl kv))]) stX_ok ⟨hx, hb, hml, hown, hts⟩ (kM_below l dC dI kI kJ kZ m0 b1 b2 b3 b4 b5 b6 b7 b8 b9 b10 b11 b12 b13 b14 b15 b16 b17 b18 b19 b20 b21 b22 b23 b24 nA kn ln an f0 f2 f3 f4 f5 D sk ht h 0 (by first | assumption | omega) (by first | assumption | rfl | exact va_up_at) (by first | assumption | omega) (by first | assumption | omega)) (cwV 1 hts (x_gV gw844 gw846 gw28 gw43 gw847) rfl rfl rfl (by decide +kernel) ⟨Nat.le_of_ble_eq_true rfl, Nat.le_of_ble_eq_true rfl⟩) hK hP hD hS hA hX [3, 1, 2] [0, 4, 5, 6] rfl rfl (by decide) (by decide) (by decide) rfl rfl rfl rfl hl.1 (Nat.le_of_ble_eq_true rfl) dMod_price_59 ⟨Nat.le_of_ble_eq_true rfl, Nat.le_of_ble_eq_true rfl⟩ (fun r_12 u_11 H locs hw hP hD hS => ?_)
          obtain rfl := hw
          have hP : va_P (dC, dI) xCl [(b23, .inl (kI, 8, .inl (fun j => nI (rc j)))), (b5, .inl (kI, 500, .inl ka)), (b6, .inl (kI, 500, .inl kN)), (b7, .inl (kI, 500, .inl kv)), (m0, .inr (6, [.int f0, .int (nI nA), .ref b1, .ref b2, .ref b3, .ref b4, .ref b5, .ref b6, .ref b7, .int (nI kn), .ref b8, .int (nI ln), .ref b9, .ref b10, .ref b11, .ref b12, .ref b13, .ref b14, .int (nI D), .ref b15, .ref b16, .ref b17, .ref b18, .ref b19, .ref b20, .ref b21, .ref b22, .ref b23, .ref b24, .int (nI an), .int f2, .int f3, .int f4, .int f5])), (b15, .inl (kI, 256, .inl sk)), (b16, .inl (kI, 8, .inl (fun j => nI (ht j))))] H := hP
          have hD : va_D A [(b23, .inl (kI, 8, .inl (fun j => nI (rc j)))), (b5, .inl (kI, 500, .inl ka)), (b6, .inl (kI, 500, .inl kN)), (b7, .inl (kI, 500, .inl kv)), (m0, .inr (6, [.int f0, .int (nI nA), .ref b1, .ref b2, .ref b3, .ref b4, .ref b5, .ref b6, .ref b7, .int (nI kn), .ref b8, .int (nI ln), .ref b9, .ref b10, .ref b11, .ref b12, .ref b13, .ref b14, .int (nI D), .ref b15, .ref b16, .ref b17, .ref b18, .ref b19, .ref b20, .ref b21, .ref b22, .ref b23, .ref b24, .int (nI an), .int f2, .int f3, .int f4, .int f5])), (b15, .inl (kI, 256, .inl sk)), (b16, .inl (kI, 8, .inl (fun j => nI (ht j))))] := hD
          refine lv_icmp_ne (tgt := 69) hx hb dMod_price_62 (by decide) (fun c62 => ?_) (fun c62 => ?_)
          · refine lv_iload_n hx hb dMod_price_69 rfl (lv_at hl 0 rfl) ?_
            refine lv_if_ne (tgt := 78) hx hb dMod_price_70 (by decide) (fun c70 => ?_) (fun c70 => ?_)
            · refine lv_bipush (v := 20) hx hb dMod_price_78 (by decide) ?_
              exact hret 20 (()) _ _ _ (mP4 (sf := fun i => sk (32 * D + i)) (sn := h) (σ := σ) (ac := rc D) c22 (m_nle1 c10) c62 c70) (hP.sub [4, 5, 6, 0, 1, 2, 3] rfl) (hD.sub [4, 5, 6, 0, 1, 2, 3] (by decide) rfl) hS dMod_price_80
            · refine lv_bipush (v := 40) hx hb dMod_price_73 (by decide) ?_
              refine lv_goto (tgt := 80) hx hb dMod_price_75 (by decide) ?_
              exact hret 40 (()) _ _ _ (by first | exact mP3 (sf := fun i => sk (32 * D + i)) (sn := h) (σ := σ) (ac := rc D) c22 (m_nle1 c10) c62 c70 | exact mP7 (sf := fun i => sk (32 * D + i)) (sn := h) (σ := σ) (ac := rc D) c22 c84 (m_nle1 c10) c96) (hP.sub [4, 5, 6, 0, 1, 2, 3] rfl) (hD.sub [4, 5, 6, 0, 1, 2, 3] (by decide) rfl) hS dMod_price_80
          · refine lv_iconst (v := 5) hx hb dMod_price_65 (by decide) ?_
            refine lv_goto (tgt := 80) hx hb dMod_price_66 (by decide) ?_
            exact hret 5 (()) _ _ _ (by first | exact mP1 (sf := fun i => sk (32 * D + i)) (sn := h) (σ := σ) (ac := rc D) c22 (m_le1 c10) | exact mP2 (sf := fun i => sk (32 * D + i)) (sn := h) (σ := σ) (ac := rc D) c22 (m_nle1 c10) c62) (hP.sub [4, 5, 6, 0, 1, 2, 3] rfl) (hD.sub [4, 5, 6, 0, 1, 2, 3] (by decide) rfl) hS dMod_price_80

