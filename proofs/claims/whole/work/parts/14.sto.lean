theorem dSto_size_0 : decode cSto_size 0 = .ok (.aload_n 0, 1) := by decide +kernel
theorem dSto_size_1 : decode cSto_size 1 = .ok (.getfield 25, 3) := by decide +kernel
theorem dSto_size_4 : decode cSto_size 4 = .ok (.ireturn, 1) := by decide +kernel
theorem dSto_isFull_0 : decode cSto_isFull 0 = .ok (.aload_n 0, 1) := by decide +kernel
theorem dSto_isFull_1 : decode cSto_isFull 1 = .ok (.getfield 25, 3) := by decide +kernel
theorem dSto_isFull_4 : decode cSto_isFull 4 = .ok (.sipush 500, 3) := by decide +kernel
theorem dSto_isFull_7 : decode cSto_isFull 7 = .ok (.if_icmp .lt 7, 3) := by decide +kernel
theorem dSto_isFull_10 : decode cSto_isFull 10 = .ok (.iconst 1, 1) := by decide +kernel
theorem dSto_isFull_11 : decode cSto_isFull 11 = .ok (.goto 4, 3) := by decide +kernel
theorem dSto_isFull_14 : decode cSto_isFull 14 = .ok (.iconst 0, 1) := by decide +kernel
theorem dSto_isFull_15 : decode cSto_isFull 15 = .ok (.ireturn, 1) := by decide +kernel
theorem dSto_changesSoFar_0 : decode cSto_changesSoFar 0 = .ok (.aload_n 0, 1) := by decide +kernel
theorem dSto_changesSoFar_1 : decode cSto_changesSoFar 1 = .ok (.getfield 41, 3) := by decide +kernel
theorem dSto_changesSoFar_4 : decode cSto_changesSoFar 4 = .ok (.ireturn, 1) := by decide +kernel
theorem dSto_forgetChanges_0 : decode cSto_forgetChanges 0 = .ok (.aload_n 0, 1) := by decide +kernel
theorem dSto_forgetChanges_1 : decode cSto_forgetChanges 1 = .ok (.iconst 0, 1) := by decide +kernel
theorem dSto_forgetChanges_2 : decode cSto_forgetChanges 2 = .ok (.putfield 41, 3) := by decide +kernel
theorem dSto_forgetChanges_5 : decode cSto_forgetChanges 5 = .ok (.return_, 1) := by decide +kernel
theorem dSto_slotOf_0 : decode cSto_slotOf 0 = .ok (.iload_n 0, 1) := by decide +kernel
theorem dSto_slotOf_1 : decode cSto_slotOf 1 = .ok (.i2l, 1) := by decide +kernel
theorem dSto_slotOf_2 : decode cSto_slotOf 2 = .ok (.bipush 32, 2) := by decide +kernel
theorem dSto_slotOf_4 : decode cSto_slotOf 4 = .ok (.lshl, 1) := by decide +kernel
theorem dSto_slotOf_5 : decode cSto_slotOf 5 = .ok (.iload_n 1, 1) := by decide +kernel
theorem dSto_slotOf_6 : decode cSto_slotOf 6 = .ok (.i2l, 1) := by decide +kernel
theorem dSto_slotOf_7 : decode cSto_slotOf 7 = .ok (.ldc2_w 48, 3) := by decide +kernel
theorem dSto_slotOf_10 : decode cSto_slotOf 10 = .ok (.land, 1) := by decide +kernel
theorem dSto_slotOf_11 : decode cSto_slotOf 11 = .ok (.lor, 1) := by decide +kernel
theorem dSto_slotOf_12 : decode cSto_slotOf 12 = .ok (.lreturn, 1) := by decide +kernel
theorem dSto_placeOf_0 : decode cSto_placeOf 0 = .ok (.iconst 0, 1) := by decide +kernel
theorem dSto_placeOf_1 : decode cSto_placeOf 1 = .ok (.istore_n 3, 1) := by decide +kernel
theorem dSto_placeOf_2 : decode cSto_placeOf 2 = .ok (.sipush 256, 3) := by decide +kernel
theorem dSto_placeOf_5 : decode cSto_placeOf 5 = .ok (.istore 4, 2) := by decide +kernel
theorem dSto_placeOf_7 : decode cSto_placeOf 7 = .ok (.iload 4, 2) := by decide +kernel
theorem dSto_placeOf_9 : decode cSto_placeOf 9 = .ok (.ifCond .le 44, 3) := by decide +kernel
theorem dSto_placeOf_12 : decode cSto_placeOf 12 = .ok (.iload_n 3, 1) := by decide +kernel
theorem dSto_placeOf_13 : decode cSto_placeOf 13 = .ok (.iload 4, 2) := by decide +kernel
theorem dSto_placeOf_15 : decode cSto_placeOf 15 = .ok (.iadd, 1) := by decide +kernel
theorem dSto_placeOf_16 : decode cSto_placeOf 16 = .ok (.aload_n 0, 1) := by decide +kernel
theorem dSto_placeOf_17 : decode cSto_placeOf 17 = .ok (.getfield 25, 3) := by decide +kernel
theorem dSto_placeOf_20 : decode cSto_placeOf 20 = .ok (.if_icmp .gt 24, 3) := by decide +kernel
theorem dSto_placeOf_23 : decode cSto_placeOf 23 = .ok (.aload_n 0, 1) := by decide +kernel
theorem dSto_placeOf_24 : decode cSto_placeOf 24 = .ok (.getfield 9, 3) := by decide +kernel
theorem dSto_placeOf_27 : decode cSto_placeOf 27 = .ok (.iload_n 3, 1) := by decide +kernel
theorem dSto_placeOf_28 : decode cSto_placeOf 28 = .ok (.iload 4, 2) := by decide +kernel
theorem dSto_placeOf_30 : decode cSto_placeOf 30 = .ok (.iadd, 1) := by decide +kernel
theorem dSto_placeOf_31 : decode cSto_placeOf 31 = .ok (.iconst 1, 1) := by decide +kernel
theorem dSto_placeOf_32 : decode cSto_placeOf 32 = .ok (.isub, 1) := by decide +kernel
theorem dSto_placeOf_33 : decode cSto_placeOf 33 = .ok (.laload, 1) := by decide +kernel
theorem dSto_placeOf_34 : decode cSto_placeOf 34 = .ok (.lload_n 1, 1) := by decide +kernel
theorem dSto_placeOf_35 : decode cSto_placeOf 35 = .ok (.lcmp, 1) := by decide +kernel
theorem dSto_placeOf_36 : decode cSto_placeOf 36 = .ok (.ifCond .ge 8, 3) := by decide +kernel
theorem dSto_placeOf_39 : decode cSto_placeOf 39 = .ok (.iload_n 3, 1) := by decide +kernel
theorem dSto_placeOf_40 : decode cSto_placeOf 40 = .ok (.iload 4, 2) := by decide +kernel
theorem dSto_placeOf_42 : decode cSto_placeOf 42 = .ok (.iadd, 1) := by decide +kernel
theorem dSto_placeOf_43 : decode cSto_placeOf 43 = .ok (.istore_n 3, 1) := by decide +kernel
theorem dSto_placeOf_44 : decode cSto_placeOf 44 = .ok (.iload 4, 2) := by decide +kernel
theorem dSto_placeOf_46 : decode cSto_placeOf 46 = .ok (.iconst 1, 1) := by decide +kernel
theorem dSto_placeOf_47 : decode cSto_placeOf 47 = .ok (.ishr, 1) := by decide +kernel
theorem dSto_placeOf_48 : decode cSto_placeOf 48 = .ok (.istore 4, 2) := by decide +kernel
theorem dSto_placeOf_50 : decode cSto_placeOf 50 = .ok (.goto (-43), 3) := by decide +kernel
theorem dSto_placeOf_53 : decode cSto_placeOf 53 = .ok (.iload_n 3, 1) := by decide +kernel
theorem dSto_placeOf_54 : decode cSto_placeOf 54 = .ok (.ireturn, 1) := by decide +kernel
theorem dSto_read_0 : decode cSto_read 0 = .ok (.iload_n 1, 1) := by decide +kernel
theorem dSto_read_1 : decode cSto_read 1 = .ok (.iload_n 2, 1) := by decide +kernel
theorem dSto_read_2 : decode cSto_read 2 = .ok (.invokestatic 29, 3) := by decide +kernel
theorem dSto_read_5 : decode cSto_read 5 = .ok (.lstore_n 3, 1) := by decide +kernel
theorem dSto_read_6 : decode cSto_read 6 = .ok (.aload_n 0, 1) := by decide +kernel
theorem dSto_read_7 : decode cSto_read 7 = .ok (.lload_n 3, 1) := by decide +kernel
theorem dSto_read_8 : decode cSto_read 8 = .ok (.invokevirtual 33, 3) := by decide +kernel
theorem dSto_read_11 : decode cSto_read 11 = .ok (.istore 5, 2) := by decide +kernel
theorem dSto_read_13 : decode cSto_read 13 = .ok (.iload 5, 2) := by decide +kernel
theorem dSto_read_15 : decode cSto_read 15 = .ok (.aload_n 0, 1) := by decide +kernel
theorem dSto_read_16 : decode cSto_read 16 = .ok (.getfield 25, 3) := by decide +kernel
theorem dSto_read_19 : decode cSto_read 19 = .ok (.if_icmp .ge 25, 3) := by decide +kernel
theorem dSto_read_22 : decode cSto_read 22 = .ok (.aload_n 0, 1) := by decide +kernel
theorem dSto_read_23 : decode cSto_read 23 = .ok (.getfield 9, 3) := by decide +kernel
theorem dSto_read_26 : decode cSto_read 26 = .ok (.iload 5, 2) := by decide +kernel
theorem dSto_read_28 : decode cSto_read 28 = .ok (.laload, 1) := by decide +kernel
theorem dSto_read_29 : decode cSto_read 29 = .ok (.lload_n 3, 1) := by decide +kernel
theorem dSto_read_30 : decode cSto_read 30 = .ok (.lcmp, 1) := by decide +kernel
theorem dSto_read_31 : decode cSto_read 31 = .ok (.ifCond .ne 13, 3) := by decide +kernel
theorem dSto_read_34 : decode cSto_read 34 = .ok (.aload_n 0, 1) := by decide +kernel
theorem dSto_read_35 : decode cSto_read 35 = .ok (.getfield 15, 3) := by decide +kernel
theorem dSto_read_38 : decode cSto_read 38 = .ok (.iload 5, 2) := by decide +kernel
theorem dSto_read_40 : decode cSto_read 40 = .ok (.iaload, 1) := by decide +kernel
theorem dSto_read_41 : decode cSto_read 41 = .ok (.goto 4, 3) := by decide +kernel
theorem dSto_read_44 : decode cSto_read 44 = .ok (.iconst 0, 1) := by decide +kernel
theorem dSto_read_45 : decode cSto_read 45 = .ok (.ireturn, 1) := by decide +kernel
theorem dSto_put_0 : decode cSto_put 0 = .ok (.aload_n 0, 1) := by decide +kernel
theorem dSto_put_1 : decode cSto_put 1 = .ok (.lload_n 1, 1) := by decide +kernel
theorem dSto_put_2 : decode cSto_put 2 = .ok (.invokevirtual 33, 3) := by decide +kernel
theorem dSto_put_5 : decode cSto_put 5 = .ok (.istore 4, 2) := by decide +kernel
theorem dSto_put_7 : decode cSto_put 7 = .ok (.iload 4, 2) := by decide +kernel
theorem dSto_put_9 : decode cSto_put 9 = .ok (.aload_n 0, 1) := by decide +kernel
theorem dSto_put_10 : decode cSto_put 10 = .ok (.getfield 25, 3) := by decide +kernel
theorem dSto_put_13 : decode cSto_put 13 = .ok (.if_icmp .ge 19, 3) := by decide +kernel
theorem dSto_put_16 : decode cSto_put 16 = .ok (.aload_n 0, 1) := by decide +kernel
theorem dSto_put_17 : decode cSto_put 17 = .ok (.getfield 9, 3) := by decide +kernel
theorem dSto_put_20 : decode cSto_put 20 = .ok (.iload 4, 2) := by decide +kernel
theorem dSto_put_22 : decode cSto_put 22 = .ok (.laload, 1) := by decide +kernel
theorem dSto_put_23 : decode cSto_put 23 = .ok (.lload_n 1, 1) := by decide +kernel
theorem dSto_put_24 : decode cSto_put 24 = .ok (.lcmp, 1) := by decide +kernel
theorem dSto_put_25 : decode cSto_put 25 = .ok (.ifCond .ne 7, 3) := by decide +kernel
theorem dSto_put_28 : decode cSto_put 28 = .ok (.iconst 1, 1) := by decide +kernel
theorem dSto_put_29 : decode cSto_put 29 = .ok (.goto 4, 3) := by decide +kernel
theorem dSto_put_32 : decode cSto_put 32 = .ok (.iconst 0, 1) := by decide +kernel
theorem dSto_put_33 : decode cSto_put 33 = .ok (.istore 5, 2) := by decide +kernel
theorem dSto_put_35 : decode cSto_put 35 = .ok (.iload 5, 2) := by decide +kernel
theorem dSto_put_37 : decode cSto_put 37 = .ok (.ifCond .eq 18, 3) := by decide +kernel
theorem dSto_put_40 : decode cSto_put 40 = .ok (.iload_n 3, 1) := by decide +kernel
theorem dSto_put_41 : decode cSto_put 41 = .ok (.ifCond .eq 14, 3) := by decide +kernel
theorem dSto_put_44 : decode cSto_put 44 = .ok (.aload_n 0, 1) := by decide +kernel
theorem dSto_put_45 : decode cSto_put 45 = .ok (.getfield 15, 3) := by decide +kernel
theorem dSto_put_48 : decode cSto_put 48 = .ok (.iload 4, 2) := by decide +kernel
theorem dSto_put_50 : decode cSto_put 50 = .ok (.iload_n 3, 1) := by decide +kernel
theorem dSto_put_51 : decode cSto_put 51 = .ok (.iastore, 1) := by decide +kernel
theorem dSto_put_52 : decode cSto_put 52 = .ok (.goto 157, 3) := by decide +kernel
theorem dSto_put_55 : decode cSto_put 55 = .ok (.iload 5, 2) := by decide +kernel
theorem dSto_put_57 : decode cSto_put 57 = .ok (.ifCond .eq 64, 3) := by decide +kernel
theorem dSto_put_60 : decode cSto_put 60 = .ok (.aload_n 0, 1) := by decide +kernel
theorem dSto_put_61 : decode cSto_put 61 = .ok (.dup, 1) := by decide +kernel
theorem dSto_put_62 : decode cSto_put 62 = .ok (.getfield 25, 3) := by decide +kernel
theorem dSto_put_65 : decode cSto_put 65 = .ok (.iconst 1, 1) := by decide +kernel
theorem dSto_put_66 : decode cSto_put 66 = .ok (.isub, 1) := by decide +kernel
theorem dSto_put_67 : decode cSto_put 67 = .ok (.putfield 25, 3) := by decide +kernel
theorem dSto_put_70 : decode cSto_put 70 = .ok (.aload_n 0, 1) := by decide +kernel
theorem dSto_put_71 : decode cSto_put 71 = .ok (.getfield 9, 3) := by decide +kernel
theorem dSto_put_74 : decode cSto_put 74 = .ok (.iload 4, 2) := by decide +kernel
theorem dSto_put_76 : decode cSto_put 76 = .ok (.iconst 1, 1) := by decide +kernel
theorem dSto_put_77 : decode cSto_put 77 = .ok (.iadd, 1) := by decide +kernel
theorem dSto_put_78 : decode cSto_put 78 = .ok (.aload_n 0, 1) := by decide +kernel
theorem dSto_put_79 : decode cSto_put 79 = .ok (.getfield 9, 3) := by decide +kernel
theorem dSto_put_82 : decode cSto_put 82 = .ok (.iload 4, 2) := by decide +kernel
theorem dSto_put_84 : decode cSto_put 84 = .ok (.aload_n 0, 1) := by decide +kernel
theorem dSto_put_85 : decode cSto_put 85 = .ok (.getfield 25, 3) := by decide +kernel
theorem dSto_put_88 : decode cSto_put 88 = .ok (.iload 4, 2) := by decide +kernel
theorem dSto_put_90 : decode cSto_put 90 = .ok (.isub, 1) := by decide +kernel
theorem dSto_put_91 : decode cSto_put 91 = .ok (.invokestatic 50, 3) := by decide +kernel
theorem dSto_put_94 : decode cSto_put 94 = .ok (.aload_n 0, 1) := by decide +kernel
theorem dSto_put_95 : decode cSto_put 95 = .ok (.getfield 15, 3) := by decide +kernel
theorem dSto_put_98 : decode cSto_put 98 = .ok (.iload 4, 2) := by decide +kernel
theorem dSto_put_100 : decode cSto_put 100 = .ok (.iconst 1, 1) := by decide +kernel
theorem dSto_put_101 : decode cSto_put 101 = .ok (.iadd, 1) := by decide +kernel
theorem dSto_put_102 : decode cSto_put 102 = .ok (.aload_n 0, 1) := by decide +kernel
theorem dSto_put_103 : decode cSto_put 103 = .ok (.getfield 15, 3) := by decide +kernel
theorem dSto_put_106 : decode cSto_put 106 = .ok (.iload 4, 2) := by decide +kernel
theorem dSto_put_108 : decode cSto_put 108 = .ok (.aload_n 0, 1) := by decide +kernel
theorem dSto_put_109 : decode cSto_put 109 = .ok (.getfield 25, 3) := by decide +kernel
theorem dSto_put_112 : decode cSto_put 112 = .ok (.iload 4, 2) := by decide +kernel
theorem dSto_put_114 : decode cSto_put 114 = .ok (.isub, 1) := by decide +kernel
theorem dSto_put_115 : decode cSto_put 115 = .ok (.invokestatic 50, 3) := by decide +kernel
theorem dSto_put_118 : decode cSto_put 118 = .ok (.goto 91, 3) := by decide +kernel
theorem dSto_put_121 : decode cSto_put 121 = .ok (.iload_n 3, 1) := by decide +kernel
theorem dSto_put_122 : decode cSto_put 122 = .ok (.ifCond .eq 87, 3) := by decide +kernel
theorem dSto_put_125 : decode cSto_put 125 = .ok (.aload_n 0, 1) := by decide +kernel
theorem dSto_put_126 : decode cSto_put 126 = .ok (.getfield 25, 3) := by decide +kernel
theorem dSto_put_129 : decode cSto_put 129 = .ok (.sipush 500, 3) := by decide +kernel
theorem dSto_put_132 : decode cSto_put 132 = .ok (.if_icmp .ge 77, 3) := by decide +kernel
theorem dSto_put_135 : decode cSto_put 135 = .ok (.aload_n 0, 1) := by decide +kernel
theorem dSto_put_136 : decode cSto_put 136 = .ok (.getfield 9, 3) := by decide +kernel
theorem dSto_put_139 : decode cSto_put 139 = .ok (.iload 4, 2) := by decide +kernel
theorem dSto_put_141 : decode cSto_put 141 = .ok (.aload_n 0, 1) := by decide +kernel
theorem dSto_put_142 : decode cSto_put 142 = .ok (.getfield 9, 3) := by decide +kernel
theorem dSto_put_145 : decode cSto_put 145 = .ok (.iload 4, 2) := by decide +kernel
theorem dSto_put_147 : decode cSto_put 147 = .ok (.iconst 1, 1) := by decide +kernel
theorem dSto_put_148 : decode cSto_put 148 = .ok (.iadd, 1) := by decide +kernel
theorem dSto_put_149 : decode cSto_put 149 = .ok (.aload_n 0, 1) := by decide +kernel
theorem dSto_put_150 : decode cSto_put 150 = .ok (.getfield 25, 3) := by decide +kernel
theorem dSto_put_153 : decode cSto_put 153 = .ok (.iload 4, 2) := by decide +kernel
theorem dSto_put_155 : decode cSto_put 155 = .ok (.isub, 1) := by decide +kernel
theorem dSto_put_156 : decode cSto_put 156 = .ok (.invokestatic 50, 3) := by decide +kernel
theorem dSto_put_159 : decode cSto_put 159 = .ok (.aload_n 0, 1) := by decide +kernel
theorem dSto_put_160 : decode cSto_put 160 = .ok (.getfield 15, 3) := by decide +kernel
theorem dSto_put_163 : decode cSto_put 163 = .ok (.iload 4, 2) := by decide +kernel
theorem dSto_put_165 : decode cSto_put 165 = .ok (.aload_n 0, 1) := by decide +kernel
theorem dSto_put_166 : decode cSto_put 166 = .ok (.getfield 15, 3) := by decide +kernel
theorem dSto_put_169 : decode cSto_put 169 = .ok (.iload 4, 2) := by decide +kernel
theorem dSto_put_171 : decode cSto_put 171 = .ok (.iconst 1, 1) := by decide +kernel
theorem dSto_put_172 : decode cSto_put 172 = .ok (.iadd, 1) := by decide +kernel
theorem dSto_put_173 : decode cSto_put 173 = .ok (.aload_n 0, 1) := by decide +kernel
theorem dSto_put_174 : decode cSto_put 174 = .ok (.getfield 25, 3) := by decide +kernel
theorem dSto_put_177 : decode cSto_put 177 = .ok (.iload 4, 2) := by decide +kernel
theorem dSto_put_179 : decode cSto_put 179 = .ok (.isub, 1) := by decide +kernel
theorem dSto_put_180 : decode cSto_put 180 = .ok (.invokestatic 50, 3) := by decide +kernel
theorem dSto_put_183 : decode cSto_put 183 = .ok (.aload_n 0, 1) := by decide +kernel
theorem dSto_put_184 : decode cSto_put 184 = .ok (.getfield 9, 3) := by decide +kernel
theorem dSto_put_187 : decode cSto_put 187 = .ok (.iload 4, 2) := by decide +kernel
theorem dSto_put_189 : decode cSto_put 189 = .ok (.lload_n 1, 1) := by decide +kernel
theorem dSto_put_190 : decode cSto_put 190 = .ok (.lastore, 1) := by decide +kernel
theorem dSto_put_191 : decode cSto_put 191 = .ok (.aload_n 0, 1) := by decide +kernel
theorem dSto_put_192 : decode cSto_put 192 = .ok (.getfield 15, 3) := by decide +kernel
theorem dSto_put_195 : decode cSto_put 195 = .ok (.iload 4, 2) := by decide +kernel
theorem dSto_put_197 : decode cSto_put 197 = .ok (.iload_n 3, 1) := by decide +kernel
theorem dSto_put_198 : decode cSto_put 198 = .ok (.iastore, 1) := by decide +kernel
theorem dSto_put_199 : decode cSto_put 199 = .ok (.aload_n 0, 1) := by decide +kernel
theorem dSto_put_200 : decode cSto_put 200 = .ok (.dup, 1) := by decide +kernel
theorem dSto_put_201 : decode cSto_put 201 = .ok (.getfield 25, 3) := by decide +kernel
theorem dSto_put_204 : decode cSto_put 204 = .ok (.iconst 1, 1) := by decide +kernel
theorem dSto_put_205 : decode cSto_put 205 = .ok (.iadd, 1) := by decide +kernel
theorem dSto_put_206 : decode cSto_put 206 = .ok (.putfield 25, 3) := by decide +kernel
theorem dSto_put_209 : decode cSto_put 209 = .ok (.return_, 1) := by decide +kernel
theorem dSto_write_0 : decode cSto_write 0 = .ok (.iload_n 1, 1) := by decide +kernel
theorem dSto_write_1 : decode cSto_write 1 = .ok (.iload_n 2, 1) := by decide +kernel
theorem dSto_write_2 : decode cSto_write 2 = .ok (.invokestatic 29, 3) := by decide +kernel
theorem dSto_write_5 : decode cSto_write 5 = .ok (.lstore 4, 2) := by decide +kernel
theorem dSto_write_7 : decode cSto_write 7 = .ok (.aload_n 0, 1) := by decide +kernel
theorem dSto_write_8 : decode cSto_write 8 = .ok (.iload_n 1, 1) := by decide +kernel
theorem dSto_write_9 : decode cSto_write 9 = .ok (.iload_n 2, 1) := by decide +kernel
theorem dSto_write_10 : decode cSto_write 10 = .ok (.invokevirtual 37, 3) := by decide +kernel
theorem dSto_write_13 : decode cSto_write 13 = .ok (.istore 6, 2) := by decide +kernel
theorem dSto_write_15 : decode cSto_write 15 = .ok (.iload 6, 2) := by decide +kernel
theorem dSto_write_17 : decode cSto_write 17 = .ok (.iload_n 3, 1) := by decide +kernel
theorem dSto_write_18 : decode cSto_write 18 = .ok (.if_icmp .eq 52, 3) := by decide +kernel
theorem dSto_write_21 : decode cSto_write 21 = .ok (.aload_n 0, 1) := by decide +kernel
theorem dSto_write_22 : decode cSto_write 22 = .ok (.getfield 41, 3) := by decide +kernel
theorem dSto_write_25 : decode cSto_write 25 = .ok (.sipush 500, 3) := by decide +kernel
theorem dSto_write_28 : decode cSto_write 28 = .ok (.if_icmp .ge 42, 3) := by decide +kernel
theorem dSto_write_31 : decode cSto_write 31 = .ok (.aload_n 0, 1) := by decide +kernel
theorem dSto_write_32 : decode cSto_write 32 = .ok (.getfield 19, 3) := by decide +kernel
theorem dSto_write_35 : decode cSto_write 35 = .ok (.aload_n 0, 1) := by decide +kernel
theorem dSto_write_36 : decode cSto_write 36 = .ok (.getfield 41, 3) := by decide +kernel
theorem dSto_write_39 : decode cSto_write 39 = .ok (.lload 4, 2) := by decide +kernel
theorem dSto_write_41 : decode cSto_write 41 = .ok (.lastore, 1) := by decide +kernel
theorem dSto_write_42 : decode cSto_write 42 = .ok (.aload_n 0, 1) := by decide +kernel
theorem dSto_write_43 : decode cSto_write 43 = .ok (.getfield 22, 3) := by decide +kernel
theorem dSto_write_46 : decode cSto_write 46 = .ok (.aload_n 0, 1) := by decide +kernel
theorem dSto_write_47 : decode cSto_write 47 = .ok (.getfield 41, 3) := by decide +kernel
theorem dSto_write_50 : decode cSto_write 50 = .ok (.iload 6, 2) := by decide +kernel
theorem dSto_write_52 : decode cSto_write 52 = .ok (.iastore, 1) := by decide +kernel
theorem dSto_write_53 : decode cSto_write 53 = .ok (.aload_n 0, 1) := by decide +kernel
theorem dSto_write_54 : decode cSto_write 54 = .ok (.dup, 1) := by decide +kernel
theorem dSto_write_55 : decode cSto_write 55 = .ok (.getfield 41, 3) := by decide +kernel
theorem dSto_write_58 : decode cSto_write 58 = .ok (.iconst 1, 1) := by decide +kernel
theorem dSto_write_59 : decode cSto_write 59 = .ok (.iadd, 1) := by decide +kernel
theorem dSto_write_60 : decode cSto_write 60 = .ok (.putfield 41, 3) := by decide +kernel
theorem dSto_write_63 : decode cSto_write 63 = .ok (.aload_n 0, 1) := by decide +kernel
theorem dSto_write_64 : decode cSto_write 64 = .ok (.lload 4, 2) := by decide +kernel
theorem dSto_write_66 : decode cSto_write 66 = .ok (.iload_n 3, 1) := by decide +kernel
theorem dSto_write_67 : decode cSto_write 67 = .ok (.invokevirtual 44, 3) := by decide +kernel
theorem dSto_write_70 : decode cSto_write 70 = .ok (.return_, 1) := by decide +kernel
theorem dSto_undoTo_0 : decode cSto_undoTo 0 = .ok (.aload_n 0, 1) := by decide +kernel
theorem dSto_undoTo_1 : decode cSto_undoTo 1 = .ok (.getfield 41, 3) := by decide +kernel
theorem dSto_undoTo_4 : decode cSto_undoTo 4 = .ok (.iconst 1, 1) := by decide +kernel
theorem dSto_undoTo_5 : decode cSto_undoTo 5 = .ok (.isub, 1) := by decide +kernel
theorem dSto_undoTo_6 : decode cSto_undoTo 6 = .ok (.istore_n 2, 1) := by decide +kernel
theorem dSto_undoTo_7 : decode cSto_undoTo 7 = .ok (.iload_n 2, 1) := by decide +kernel
theorem dSto_undoTo_8 : decode cSto_undoTo 8 = .ok (.ifCond .lt 35, 3) := by decide +kernel
theorem dSto_undoTo_11 : decode cSto_undoTo 11 = .ok (.iload_n 2, 1) := by decide +kernel
theorem dSto_undoTo_12 : decode cSto_undoTo 12 = .ok (.iload_n 1, 1) := by decide +kernel
theorem dSto_undoTo_13 : decode cSto_undoTo 13 = .ok (.if_icmp .lt 30, 3) := by decide +kernel
theorem dSto_undoTo_16 : decode cSto_undoTo 16 = .ok (.aload_n 0, 1) := by decide +kernel
theorem dSto_undoTo_17 : decode cSto_undoTo 17 = .ok (.aload_n 0, 1) := by decide +kernel
theorem dSto_undoTo_18 : decode cSto_undoTo 18 = .ok (.getfield 19, 3) := by decide +kernel
theorem dSto_undoTo_21 : decode cSto_undoTo 21 = .ok (.iload_n 2, 1) := by decide +kernel
theorem dSto_undoTo_22 : decode cSto_undoTo 22 = .ok (.laload, 1) := by decide +kernel
theorem dSto_undoTo_23 : decode cSto_undoTo 23 = .ok (.aload_n 0, 1) := by decide +kernel
theorem dSto_undoTo_24 : decode cSto_undoTo 24 = .ok (.getfield 22, 3) := by decide +kernel
theorem dSto_undoTo_27 : decode cSto_undoTo 27 = .ok (.iload_n 2, 1) := by decide +kernel
theorem dSto_undoTo_28 : decode cSto_undoTo 28 = .ok (.iaload, 1) := by decide +kernel
theorem dSto_undoTo_29 : decode cSto_undoTo 29 = .ok (.invokevirtual 44, 3) := by decide +kernel
theorem dSto_undoTo_32 : decode cSto_undoTo 32 = .ok (.aload_n 0, 1) := by decide +kernel
theorem dSto_undoTo_33 : decode cSto_undoTo 33 = .ok (.iload_n 2, 1) := by decide +kernel
theorem dSto_undoTo_34 : decode cSto_undoTo 34 = .ok (.putfield 41, 3) := by decide +kernel
theorem dSto_undoTo_37 : decode cSto_undoTo 37 = .ok (.iinc 2 (-1), 3) := by decide +kernel
theorem dSto_undoTo_40 : decode cSto_undoTo 40 = .ok (.goto (-33), 3) := by decide +kernel
theorem dSto_undoTo_43 : decode cSto_undoTo 43 = .ok (.return_, 1) := by decide +kernel
theorem gw9 : .selects RSto ySto_placeOf ySto_placeOf ∈ xG := List.mem_filter.mpr ⟨List.mem_of_getElem? (i := 9) (by decide +kernel), by decide +kernel⟩
theorem gw15 : .selects RSto ySto_put ySto_put ∈ xG := List.mem_filter.mpr ⟨List.mem_of_getElem? (i := 15) (by decide +kernel), by decide +kernel⟩
theorem gw39 : .initialized RSto ∈ xG := List.mem_filter.mpr ⟨List.mem_of_getElem? (i := 39) (by decide +kernel), by decide +kernel⟩
theorem gw96 : .fieldLink RSto 9 "CallLedger$Store" "slots" "[J" ∈ xG := List.mem_filter.mpr ⟨List.mem_of_getElem? (i := 96) (by decide +kernel), by decide +kernel⟩
theorem gw97 : .fieldLink RSto 15 "CallLedger$Store" "numbers" "[I" ∈ xG := List.mem_filter.mpr ⟨List.mem_of_getElem? (i := 97) (by decide +kernel), by decide +kernel⟩
theorem gw98 : .fieldLink RSto 25 "CallLedger$Store" "count" "I" ∈ xG := List.mem_filter.mpr ⟨List.mem_of_getElem? (i := 98) (by decide +kernel), by decide +kernel⟩
theorem gw99 : .fieldLink RSto 19 "CallLedger$Store" "changedSlots" "[J" ∈ xG := List.mem_filter.mpr ⟨List.mem_of_getElem? (i := 99) (by decide +kernel), by decide +kernel⟩
theorem gw100 : .fieldLink RSto 22 "CallLedger$Store" "numbersBefore" "[I" ∈ xG := List.mem_filter.mpr ⟨List.mem_of_getElem? (i := 100) (by decide +kernel), by decide +kernel⟩
theorem gw101 : .fieldLink RSto 41 "CallLedger$Store" "changes" "I" ∈ xG := List.mem_filter.mpr ⟨List.mem_of_getElem? (i := 101) (by decide +kernel), by decide +kernel⟩
theorem gw517 : .instanceMethod ySto_read ∈ xG := List.mem_filter.mpr ⟨List.mem_of_getElem? (i := 517) (by decide +kernel), by decide +kernel⟩
theorem gw518 : .selects RSto ySto_read ySto_read ∈ xG := List.mem_filter.mpr ⟨List.mem_of_getElem? (i := 518) (by decide +kernel), by decide +kernel⟩
theorem gw519 : .code ySto_read cSto_read 6 (some .int) ∈ xG := List.mem_filter.mpr ⟨List.mem_of_getElem? (i := 519) (by decide +kernel), by decide +kernel⟩
theorem gw520 : .methodLink RSto 29 ySto_slotOf ∈ xG := List.mem_filter.mpr ⟨List.mem_of_getElem? (i := 520) (by decide +kernel), by decide +kernel⟩
theorem gw521 : .static ySto_slotOf ∈ xG := List.mem_filter.mpr ⟨List.mem_of_getElem? (i := 521) (by decide +kernel), by decide +kernel⟩
theorem gw522 : .code ySto_slotOf cSto_slotOf 2 (some .long) ∈ xG := List.mem_filter.mpr ⟨List.mem_of_getElem? (i := 522) (by decide +kernel), by decide +kernel⟩
theorem gw524 : .methodLink RSto 33 ySto_placeOf ∈ xG := List.mem_filter.mpr ⟨List.mem_of_getElem? (i := 524) (by decide +kernel), by decide +kernel⟩
theorem gw526 : .instanceMethod ySto_placeOf ∈ xG := List.mem_filter.mpr ⟨List.mem_of_getElem? (i := 526) (by decide +kernel), by decide +kernel⟩
theorem gw527 : .code ySto_placeOf cSto_placeOf 5 (some .int) ∈ xG := List.mem_filter.mpr ⟨List.mem_of_getElem? (i := 527) (by decide +kernel), by decide +kernel⟩
theorem gw575 : .methodLink RSto 37 ySto_read ∈ xG := List.mem_filter.mpr ⟨List.mem_of_getElem? (i := 575) (by decide +kernel), by decide +kernel⟩
theorem gw576 : .methodLink RSto 44 ySto_put ∈ xG := List.mem_filter.mpr ⟨List.mem_of_getElem? (i := 576) (by decide +kernel), by decide +kernel⟩
theorem gw578 : .instanceMethod ySto_put ∈ xG := List.mem_filter.mpr ⟨List.mem_of_getElem? (i := 578) (by decide +kernel), by decide +kernel⟩
theorem gw579 : .code ySto_put cSto_put 6 none ∈ xG := List.mem_filter.mpr ⟨List.mem_of_getElem? (i := 579) (by decide +kernel), by decide +kernel⟩
theorem gw580 : .methodLink RSto 50 arraycopyName ∈ xG := List.mem_filter.mpr ⟨List.mem_of_getElem? (i := 580) (by decide +kernel), by decide +kernel⟩
set_option maxHeartbeats 4000000 in
set_option maxRecDepth 100000 in
theorem kSto_size (l : Launch) (dC : Nat → ClassId) (dI : Nat → Nat → Nat) (kI kJ kZ : ClassId) (h0 : Nat) (h1 : Nat) (h2 : Nat) (h3 : Nat) (h4 : Nat) (n : Nat) (ch : Nat)  :
    XM stX l ySto_size wSto_size { frames := 0, cells := 0, slots := 0, locals := 0 } (dC, dI) xCl (x_T kI kJ kZ) [(h0, .inr (4, [.ref h1, .ref h2, .int (nI n), .ref h3, .ref h4, .int (nI ch)]))] [.ref h0] 0 0 x_eI (fun (r : Int32) (u : Unit) => r = nI n) (fun (u : Unit) => [(h0, .inr (4, [.ref h1, .ref h2, .int (nI n), .ref h3, .ref h4, .int (nI ch)]))]) := by
  refine XM.ofI (cc := cSto_size) (maxL := 1) (by decide) rfl (Nat.le_of_ble_eq_true rfl) ?_
  intro p e s m below meth c A Q hx hb hr hml hown hts hlocks hin hA hK hP hD hX hS ls hl hret
  have hl : lv_has ls 1 [(0, .ref h0)] := hl
  refine lv_aload_n hx hb dSto_size_0 rfl (lv_at hl 0 rfl) ?_
  refine va_get (D := (dC, dI)) (ci := 4) (v := .int (nI n)) (C := RSto) (T := TSto) (N := 6) hx hb hts (fun w h => List.mem_cons_of_mem _ (laySto w h)) hown hK hP 0 rfl rfl 2 (by decide) (hts (.fieldLink RSto 25 "CallLedger$Store" "count" "I") (List.mem_cons_of_mem _ gw98)) (fun _ h9 => h9) rfl dSto_size_1 ?_
  exact hret (nI n) (()) _ _ _ (rfl) (hP.sub [0] rfl) (hD.sub [0] (by decide) rfl) hS dSto_size_4

set_option maxHeartbeats 4000000 in
set_option maxRecDepth 100000 in
theorem kSto_isFull (l : Launch) (dC : Nat → ClassId) (dI : Nat → Nat → Nat) (kI kJ kZ : ClassId) (h0 : Nat) (h1 : Nat) (h2 : Nat) (h3 : Nat) (h4 : Nat) (n : Nat) (ch : Nat) (hn : n ≤ 500) :
    XM stX l ySto_isFull wSto_isFull { frames := 0, cells := 0, slots := 0, locals := 0 } (dC, dI) xCl (x_T kI kJ kZ) [(h0, .inr (4, [.ref h1, .ref h2, .int (nI n), .ref h3, .ref h4, .int (nI ch)]))] [.ref h0] 0 0 x_eI (fun (r : Int32) (u : Unit) => r = if n < 500 then 0 else 1) (fun (u : Unit) => [(h0, .inr (4, [.ref h1, .ref h2, .int (nI n), .ref h3, .ref h4, .int (nI ch)]))]) := by
  refine XM.ofZ (cc := cSto_isFull) (maxL := 1) (by decide) rfl (Nat.le_of_ble_eq_true rfl) ?_
  intro p e s m below meth c A Q hx hb hr hml hown hts hlocks hin hA hK hP hD hX hS ls hl hret
  have hl : lv_has ls 1 [(0, .ref h0)] := hl
  refine lv_aload_n hx hb dSto_isFull_0 rfl (lv_at hl 0 rfl) ?_
  refine va_get (D := (dC, dI)) (ci := 4) (v := .int (nI n)) (C := RSto) (T := TSto) (N := 6) hx hb hts (fun w h => List.mem_cons_of_mem _ (laySto w h)) hown hK hP 0 rfl rfl 2 (by decide) (hts (.fieldLink RSto 25 "CallLedger$Store" "count" "I") (List.mem_cons_of_mem _ gw98)) (fun _ h9 => h9) rfl dSto_isFull_1 ?_
  refine lv_sipush (v := 500) hx hb dSto_isFull_4 (by decide) ?_
  refine lv_icmp_lt (tgt := 14) hx hb dSto_isFull_7 (by decide) (fun c7 => ?_) (fun c7 => ?_)
  · have c7 : n < 500 := (nI_ltI (a := n) (b := 500) (by omega) (by omega)).mp c7
    refine lv_iconst (v := 0) hx hb dSto_isFull_14 (by decide) ?_
    exact hret 0 (())  (rfl) _ _ _ (by first | rfl | (split <;> first | rfl | omega)) (hP.sub [0] rfl) (hD.sub [0] (by decide) rfl) hS dSto_isFull_15
  · have c7 : ¬ (n < 500) := fun z9 => c7 ((nI_ltI (a := n) (b := 500) (by omega) (by omega)).mpr z9)
    refine lv_iconst (v := 1) hx hb dSto_isFull_10 (by decide) ?_
    refine lv_goto (tgt := 15) hx hb dSto_isFull_11 (by decide) ?_
    exact hret 1 (())  (rfl) _ _ _ (by first | rfl | (split <;> first | rfl | omega)) (hP.sub [0] rfl) (hD.sub [0] (by decide) rfl) hS dSto_isFull_15

set_option maxHeartbeats 4000000 in
set_option maxRecDepth 100000 in
theorem kSto_changesSoFar (l : Launch) (dC : Nat → ClassId) (dI : Nat → Nat → Nat) (kI kJ kZ : ClassId) (h0 : Nat) (h1 : Nat) (h2 : Nat) (h3 : Nat) (h4 : Nat) (n : Nat) (ch : Nat)  :
    XM stX l ySto_changesSoFar wSto_changesSoFar { frames := 0, cells := 0, slots := 0, locals := 0 } (dC, dI) xCl (x_T kI kJ kZ) [(h0, .inr (4, [.ref h1, .ref h2, .int (nI n), .ref h3, .ref h4, .int (nI ch)]))] [.ref h0] 0 0 x_eI (fun (r : Int32) (u : Unit) => r = nI ch) (fun (u : Unit) => [(h0, .inr (4, [.ref h1, .ref h2, .int (nI n), .ref h3, .ref h4, .int (nI ch)]))]) := by
  refine XM.ofI (cc := cSto_changesSoFar) (maxL := 1) (by decide) rfl (Nat.le_of_ble_eq_true rfl) ?_
  intro p e s m below meth c A Q hx hb hr hml hown hts hlocks hin hA hK hP hD hX hS ls hl hret
  have hl : lv_has ls 1 [(0, .ref h0)] := hl
  refine lv_aload_n hx hb dSto_changesSoFar_0 rfl (lv_at hl 0 rfl) ?_
  refine va_get (D := (dC, dI)) (ci := 4) (v := .int (nI ch)) (C := RSto) (T := TSto) (N := 6) hx hb hts (fun w h => List.mem_cons_of_mem _ (laySto w h)) hown hK hP 0 rfl rfl 5 (by decide) (hts (.fieldLink RSto 41 "CallLedger$Store" "changes" "I") (List.mem_cons_of_mem _ gw101)) (fun _ h9 => h9) rfl dSto_changesSoFar_1 ?_
  exact hret (nI ch) (()) _ _ _ (rfl) (hP.sub [0] rfl) (hD.sub [0] (by decide) rfl) hS dSto_changesSoFar_4

set_option maxHeartbeats 4000000 in
set_option maxRecDepth 100000 in
theorem kSto_forgetChanges (l : Launch) (dC : Nat → ClassId) (dI : Nat → Nat → Nat) (kI kJ kZ : ClassId) (h0 : Nat) (h1 : Nat) (h2 : Nat) (h3 : Nat) (h4 : Nat) (n : Nat) (ch : Nat)  :
    XM stX l ySto_forgetChanges wSto_forgetChanges { frames := 0, cells := 0, slots := 0, locals := 0 } (dC, dI) xCl (x_T kI kJ kZ) [(h0, .inr (4, [.ref h1, .ref h2, .int (nI n), .ref h3, .ref h4, .int (nI ch)]))] [.ref h0] 0 0 x_eV (fun (r : Unit) (u : Unit) => True) (fun (u : Unit) => [(h0, .inr (4, [.ref h1, .ref h2, .int (nI n), .ref h3, .ref h4, .int (nI 0)]))]) := by
  refine XM.ofV (cc := cSto_forgetChanges) (maxL := 1) (by decide) rfl (Nat.le_of_ble_eq_true rfl) ?_
  intro p e s m below meth c A Q hx hb hr hml hown hts hlocks hin hA hK hP hD hX hS ls hl hret
  have hl : lv_has ls 1 [(0, .ref h0)] := hl
  refine lv_aload_n hx hb dSto_forgetChanges_0 rfl (lv_at hl 0 rfl) ?_
  refine lv_iconst (v := 0) hx hb dSto_forgetChanges_1 (by decide) ?_
  refine va_put (D := (dC, dI)) (ci := 4) (v := .int 0) (ty := .int) (C := RSto) (T := TSto) (N := 6) hx hb hts (fun w h => List.mem_cons_of_mem _ (laySto w h)) tySto tykSto nmSto hown hK hP hD hS 0 rfl rfl 5 (by decide) (hts (.fieldLink RSto 41 "CallLedger$Store" "changes" "I") (List.mem_cons_of_mem _ gw101)) (fun _ h9 => h9) rfl (by decide +kernel) rfl rfl (Nat.le_of_ble_eq_true rfl) dSto_forgetChanges_2 (fun H locs hP hD hS => ?_)
  have hP : va_P (dC, dI) xCl [(h0, .inr (4, [.ref h1, .ref h2, .int (nI n), .ref h3, .ref h4, .int 0]))] H := hP
  have hD : va_D A [(h0, .inr (4, [.ref h1, .ref h2, .int (nI n), .ref h3, .ref h4, .int 0]))] := hD
  exact hret  (()) _ _ _ (trivial) (hP.sub [0] rfl) (hD.sub [0] (by decide) rfl) hS dSto_forgetChanges_5

set_option maxHeartbeats 4000000 in
set_option maxRecDepth 100000 in
theorem kSto_slotOf (l : Launch) (dC : Nat → ClassId) (dI : Nat → Nat → Nat) (kI kJ kZ : ClassId) (a : Int32) (k : Int32)  :
    XM stX l ySto_slotOf wSto_slotOf { frames := 0, cells := 0, slots := 0, locals := 0 } (dC, dI) xCl (x_T kI kJ kZ) [] [.int a, .int k] 0 0 x_eL (fun (r : Int64) (u : Unit) => r = xSlot a k) (fun (u : Unit) => []) := by
  refine XM.ofL (cc := cSto_slotOf) (maxL := 2) (by decide) rfl (Nat.le_of_ble_eq_true rfl) ?_
  intro p e s m below meth c A Q hx hb hr hml hown hts hlocks hin hA hK hP hD hX hS ls hl hret
  have hl : lv_has ls 2 [(0, .int a), (1, .int k)] := hl
  refine lv_iload_n hx hb dSto_slotOf_0 rfl (lv_at hl 0 rfl) ?_
  refine lv_i2l (v := a.toInt64) hx hb dSto_slotOf_1 rfl ?_
  refine lv_bipush (v := 32) hx hb dSto_slotOf_2 (by decide) ?_
  refine lv_lshl (v := a.toInt64 <<< (Int32.toInt64 32 &&& 63)) hx hb dSto_slotOf_4 rfl ?_
  refine lv_iload_n hx hb dSto_slotOf_5 rfl (lv_at hl 1 rfl) ?_
  refine lv_i2l (v := k.toInt64) hx hb dSto_slotOf_6 rfl ?_
  refine lv_ldc2 (v := 4294967295) hx hb hown (hts (.constantLong RSto 48 4294967295) (by decide +kernel)) dSto_slotOf_7 ?_
  refine lv_land hx hb dSto_slotOf_10 ?_
  refine lv_lor hx hb dSto_slotOf_11 ?_
  exact hret ((a.toInt64 <<< (Int32.toInt64 32 &&& 63)) ||| (k.toInt64 &&& 4294967295)) (()) _ _ _ (rfl) (hP.sub [] rfl) (hD.sub [] (by decide) rfl) hS dSto_slotOf_12

set_option maxHeartbeats 4000000 in
set_option maxRecDepth 100000 in
theorem kSto_placeOf (l : Launch) (dC : Nat → ClassId) (dI : Nat → Nat → Nat) (kI kJ kZ : ClassId) (h0 : Nat) (h1 : Nat) (h2 : Nat) (h3 : Nat) (h4 : Nat) (n : Nat) (ch : Nat) (sl : Nat → Int64) (z : Int64) (hn : n ≤ 500) (hs : x_up sl n) :
    XM stX l ySto_placeOf wSto_placeOf { frames := 0, cells := 0, slots := 0, locals := 0 } (dC, dI) xCl (x_T kI kJ kZ) [(h0, .inr (4, [.ref h1, .ref h2, .int (nI n), .ref h3, .ref h4, .int (nI ch)])), (h1, .inl (kJ, 500, .inr (.inl sl)))] [.ref h0, .long z] 0 0 x_eI (fun (r : Int32) (u : Nat) => (r = nI u) ∧ (PL sl n z u)) (fun (u : Nat) => [(h0, .inr (4, [.ref h1, .ref h2, .int (nI n), .ref h3, .ref h4, .int (nI ch)])), (h1, .inl (kJ, 500, .inr (.inl sl)))]) := by
  refine XM.ofI (cc := cSto_placeOf) (maxL := 5) (by decide) rfl (Nat.le_of_ble_eq_true rfl) ?_
  intro p e s m below meth c A Q hx hb hr hml hown hts hlocks hin hA hK hP hD hX hS ls hl hret
  have hl : lv_has ls 5 [(0, .ref h0), (1, .long z)] := hl
  refine lv_iconst (v := 0) hx hb dSto_placeOf_0 (by decide) ?_
  refine lv_istore_n (lv' := [(3, .int 0), (0, .ref h0), (1, .long z)]) hx hb dSto_placeOf_1 rfl hl (by decide) rfl (fun ls hl => ?_)
  refine lv_sipush (v := 256) hx hb dSto_placeOf_2 (by decide) ?_
  refine lv_istore (lv' := [(4, .int 256), (3, .int 0), (0, .ref h0), (1, .long z)]) hx hb dSto_placeOf_5 hl (by decide) rfl (fun ls hl => ?_)
  have loop7 : ∀ (N : Nat) (k : Nat) (q : Nat), ∀ (hN : k < N) (hk9 : k ≤ 9) (hq : q ≤ n) (g1 : ∀ i, i < q → sl i < z) (g2 : ∀ i, q + (2 * x_pw k - 1) ≤ i → i < n → z ≤ sl i) (H : Heap) (locs : List Loc), va_P (dC, dI) xCl [(h0, .inr (4, [.ref h1, .ref h2, .int (nI n), .ref h3, .ref h4, .int (nI ch)])), (h1, .inl (kJ, 500, .inr (.inl sl)))] H → va_D A [(h0, .inr (4, [.ref h1, .ref h2, .int (nI n), .ref h3, .ref h4, .int (nI ch)])), (h1, .inl (kJ, 500, .inr (.inl sl)))] → va_S A s.heap H locs → ∀ ls, lv_has ls 5 [(0, .ref h0), (1, .long z), (3, .int (nI q)), (4, .int (nI (x_pw k)))] → W p l e { frames := 0, cells := 0, slots := 0, locals := 0 } s m [.ref h0, .long z].toArray below meth c H locs 0 0 Q (F0 m 7 ls []) := by
    intro N
    induction N with
    | zero => intro k q hN; exact absurd hN (Nat.not_lt_zero _)
    | succ N ih =>
      intro k q hN hk9 hq g1 g2 H locs hP hD hS ls hl
      have hpw := x_pw_le hk9
      refine lv_iload hx hb dSto_placeOf_7 (lv_at hl 3 rfl) ?_
      refine lv_if_le (tgt := 53) hx hb dSto_placeOf_9 (by decide) (fun c9 => ?_) (fun c9 => ?_)
      · have c9 : (x_pw k) ≤ 0 := (nI_leI (a := (x_pw k)) (b := 0) (by omega) (by omega)).mp c9
        refine lv_iload_n hx hb dSto_placeOf_53 rfl (lv_at hl 2 rfl) ?_
        exact hret (nI q) (q) _ _ _ (⟨rfl, ⟨hq, g1, fun i hi hin => g2 i (by have e9 : x_pw k = 0 := (by omega); omega) hin⟩⟩) (hP.sub [0, 1] rfl) (hD.sub [0, 1] (by decide) rfl) hS dSto_placeOf_54
      · have c9 : ¬ ((x_pw k) ≤ 0) := fun z9 => c9 ((nI_leI (a := (x_pw k)) (b := 0) (by omega) (by omega)).mpr z9)
        obtain ⟨k, rfl⟩ : ∃ k9, k = k9 + 1 := ⟨k - 1, by have hk0 : k ≠ 0 := (fun g => c9 (by rw [g]; exact Nat.le_refl 0)); omega⟩
        have hpp := x_pw_pos k
        have hpd := x_pw_dbl k
        refine lv_iload_n hx hb dSto_placeOf_12 rfl (lv_at hl 2 rfl) ?_
        refine lv_iload hx hb dSto_placeOf_13 (lv_at hl 3 rfl) ?_
        refine lv_iadd hx hb dSto_placeOf_15 ?_
        refine x_topi (y := nI (q + x_pw (k + 1))) (nI_add _ _) ?_
        refine lv_aload_n hx hb dSto_placeOf_16 rfl (lv_at hl 0 rfl) ?_
        refine va_get (D := (dC, dI)) (ci := 4) (v := .int (nI n)) (C := RSto) (T := TSto) (N := 6) hx hb hts (fun w h => List.mem_cons_of_mem _ (laySto w h)) hown hK hP 0 rfl rfl 2 (by decide) (hts (.fieldLink RSto 25 "CallLedger$Store" "count" "I") (List.mem_cons_of_mem _ gw98)) (fun _ h9 => h9) rfl dSto_placeOf_17 ?_
        refine lv_icmp_gt (tgt := 44) hx hb dSto_placeOf_20 (by decide) (fun c20 => ?_) (fun c20 => ?_)
        · have c20 : n < (q + x_pw (k + 1)) := (nI_ltI (a := n) (b := (q + x_pw (k + 1))) (by omega) (by omega)).mp c20
          refine lv_iload hx hb dSto_placeOf_44 (lv_at hl 3 rfl) ?_
          refine lv_iconst (v := 1) hx hb dSto_placeOf_46 (by decide) ?_
          refine lv_ishr hx hb dSto_placeOf_47 ?_
          refine x_topi (y := nI (x_pw k)) (x_pw_shr (by omega)) ?_
          refine lv_istore (lv' := [(4, .int (nI (x_pw k))), (0, .ref h0), (1, .long z), (3, .int (nI q))]) hx hb dSto_placeOf_48 hl (by decide) rfl (fun ls hl => ?_)
          refine lv_goto (tgt := 7) hx hb dSto_placeOf_50 (by decide) ?_
          exact ih k q (by omega) (by omega) (by omega) (by first | exact g1 | exact x_pl_lo hs (by omega) hpp c36) (fun i hi hin => by first | exact g2 i (by omega) hin | exact x_pl_hi hs c36 i (by omega) hin hpp | (exfalso; omega)) _ _ (hP.sub [0, 1] rfl) (hD.sub [0, 1] (by decide) rfl) hS _ (lv_sub hl [1, 2, 3, 0] rfl)
        · have c20 : ¬ (n < (q + x_pw (k + 1))) := fun z9 => c20 ((nI_ltI (a := n) (b := (q + x_pw (k + 1))) (by omega) (by omega)).mpr z9)
          refine lv_aload_n hx hb dSto_placeOf_23 rfl (lv_at hl 0 rfl) ?_
          refine va_get (D := (dC, dI)) (ci := 4) (v := .ref h1) (C := RSto) (T := TSto) (N := 6) hx hb hts (fun w h => List.mem_cons_of_mem _ (laySto w h)) hown hK hP 0 rfl rfl 0 (by decide) (hts (.fieldLink RSto 9 "CallLedger$Store" "slots" "[J") (List.mem_cons_of_mem _ gw96)) (fun _ h9 => h9) rfl dSto_placeOf_24 ?_
          refine lv_iload_n hx hb dSto_placeOf_27 rfl (lv_at hl 2 rfl) ?_
          refine lv_iload hx hb dSto_placeOf_28 (lv_at hl 3 rfl) ?_
          refine lv_iadd hx hb dSto_placeOf_30 ?_
          refine x_topi (y := nI (q + x_pw (k + 1))) (nI_add _ _) ?_
          refine lv_iconst (v := 1) hx hb dSto_placeOf_31 (by decide) ?_
          refine lv_isub hx hb dSto_placeOf_32 ?_
          refine x_topi (y := nI (q + x_pw (k + 1) - 1)) (x_pred (by omega)) ?_
          refine x_lald (j := q + x_pw (k + 1) - 1) hx hb hK hP 1 1 rfl rfl rfl (by omega) (by omega) dSto_placeOf_33 ?_
          refine lv_lload_n hx hb dSto_placeOf_34 rfl (lv_at hl 1 rfl) ?_
          refine W.lcmp hx hb dSto_placeOf_35 ?_
          refine lv_if_ge (tgt := 44) hx hb dSto_placeOf_36 (by decide) (fun c36 => ?_) (fun c36 => ?_)
          · have c36 := (lg_cmp_ge _ _).mp c36
            refine lv_iload hx hb dSto_placeOf_44 (lv_at hl 3 rfl) ?_
            refine lv_iconst (v := 1) hx hb dSto_placeOf_46 (by decide) ?_
            refine lv_ishr hx hb dSto_placeOf_47 ?_
            refine x_topi (y := nI (x_pw k)) (x_pw_shr (by omega)) ?_
            refine lv_istore (lv' := [(4, .int (nI (x_pw k))), (0, .ref h0), (1, .long z), (3, .int (nI q))]) hx hb dSto_placeOf_48 hl (by decide) rfl (fun ls hl => ?_)
            refine lv_goto (tgt := 7) hx hb dSto_placeOf_50 (by decide) ?_
            exact ih k q (by omega) (by omega) (by omega) (by first | exact g1 | exact x_pl_lo hs (by omega) hpp c36) (fun i hi hin => by first | exact g2 i (by omega) hin | exact x_pl_hi hs c36 i (by omega) hin hpp | (exfalso; omega)) _ _ (hP.sub [0, 1] rfl) (hD.sub [0, 1] (by decide) rfl) hS _ (lv_sub hl [1, 2, 3, 0] rfl)
          · have c36 := x_lt_of_nle (fun z => c36 ((lg_cmp_ge _ _).mpr z))
            refine lv_iload_n hx hb dSto_placeOf_39 rfl (lv_at hl 2 rfl) ?_
            refine lv_iload hx hb dSto_placeOf_40 (lv_at hl 3 rfl) ?_
            refine lv_iadd hx hb dSto_placeOf_42 ?_
            refine x_topi (y := nI (q + x_pw (k + 1))) (nI_add _ _) ?_
            refine lv_istore_n (lv' := [(3, .int (nI (q + x_pw (k + 1)))), (0, .ref h0), (1, .long z), (4, .int (nI (x_pw (k + 1))))]) hx hb dSto_placeOf_43 rfl hl (by decide) rfl (fun ls hl => ?_)
            refine lv_iload hx hb dSto_placeOf_44 (lv_at hl 3 rfl) ?_
            refine lv_iconst (v := 1) hx hb dSto_placeOf_46 (by decide) ?_
            refine lv_ishr hx hb dSto_placeOf_47 ?_
            refine x_topi (y := nI (x_pw k)) (x_pw_shr (by omega)) ?_
            refine lv_istore (lv' := [(4, .int (nI (x_pw k))), (3, .int (nI (q + x_pw (k + 1)))), (0, .ref h0), (1, .long z)]) hx hb dSto_placeOf_48 hl (by decide) rfl (fun ls hl => ?_)
            refine lv_goto (tgt := 7) hx hb dSto_placeOf_50 (by decide) ?_
            exact ih k (q + x_pw (k + 1)) (by omega) (by omega) (by omega) (by first | exact g1 | exact x_pl_lo hs (by omega) hpp c36) (fun i hi hin => by first | exact g2 i (by omega) hin | exact x_pl_hi hs c36 i (by omega) hin hpp | (exfalso; omega)) _ _ (hP.sub [0, 1] rfl) (hD.sub [0, 1] (by decide) rfl) hS _ (lv_sub hl [2, 3, 1, 0] rfl)
  exact loop7 _ 9 0 (Nat.lt_succ_self _) (by omega) (Nat.zero_le _) (fun i h => absurd h (Nat.not_lt_zero i)) (fun i h g => by have e9 : x_pw 9 = 256 := rfl; rw [e9] at h; omega) _ _ (hP.sub [0, 1] rfl) (hD.sub [0, 1] (by decide) rfl) hS _ (lv_sub hl [2, 3, 1, 0] rfl)

set_option maxHeartbeats 4000000 in
set_option maxRecDepth 100000 in
theorem kSto_read (l : Launch) (dC : Nat → ClassId) (dI : Nat → Nat → Nat) (kI kJ kZ : ClassId) (h0 : Nat) (h1 : Nat) (h2 : Nat) (h3 : Nat) (h4 : Nat) (n : Nat) (ch : Nat) (sl : Nat → Int64) (nu : Nat → Int32) (σ : Int64 → Int32) (a : Int32) (k : Int32) (hst : ST sl nu n σ) :
    XM stX l ySto_read wSto_read { frames := 1, cells := 0, slots := 0, locals := 24 } (dC, dI) xCl (x_T kI kJ kZ) [(h0, .inr (4, [.ref h1, .ref h2, .int (nI n), .ref h3, .ref h4, .int (nI ch)])), (h1, .inl (kJ, 500, .inr (.inl sl))), (h2, .inl (kI, 500, .inl nu))] [.ref h0, .int a, .int k] 0 0 x_eI (fun (r : Int32) (u : Unit) => r = σ (xSlot a k)) (fun (u : Unit) => [(h0, .inr (4, [.ref h1, .ref h2, .int (nI n), .ref h3, .ref h4, .int (nI ch)])), (h1, .inl (kJ, 500, .inr (.inl sl))), (h2, .inl (kI, 500, .inl nu))]) := by
  refine XM.ofI (cc := cSto_read) (maxL := 6) (by decide) rfl (Nat.le_of_ble_eq_true rfl) ?_
  intro p e s m below meth c A Q hx hb hr hml hown hts hlocks hin hA hK hP hD hX hS ls hl hret
  have hl : lv_has ls 6 [(0, .ref h0), (1, .int a), (2, .int k)] := hl
  refine lv_iload_n hx hb dSto_read_0 rfl (lv_at hl 1 rfl) ?_
  refine lv_iload_n hx hb dSto_read_1 rfl (lv_at hl 2 rfl) ?_
  refine XM.callSl (As := [.int a, .int k]) (rest := []) (wr := [(h0, .inr (4, [.ref h1, .ref h2, .int (nI n), .ref h3, .ref h4, .int (nI ch)])), (h1, .inl (kJ, 500, .inr (.inl sl))), (h2, .inl (kI, 500, .inl nu))]) stX_ok ⟨hx, hb, hml, hown, hts⟩ (kSto_slotOf l dC dI kI kJ kZ a k ) (va_cwS 2 hts (x_gS gw520 gw521 gw39 gw522) rfl rfl rfl (by decide +kernel) ⟨Nat.le_of_ble_eq_true rfl, Nat.le_of_ble_eq_true rfl⟩) hK hP hD hS hA hX [] [0, 1, 2] rfl rfl (by decide) (by decide) (by decide) rfl rfl hl.1 (Nat.le_of_ble_eq_true rfl) dSto_read_2 ⟨Nat.le_of_ble_eq_true rfl, Nat.le_of_ble_eq_true rfl⟩ (fun r_2 u_1 H locs hw hP hD hS => ?_)
  obtain rfl := hw
  have hP : va_P (dC, dI) xCl [(h0, .inr (4, [.ref h1, .ref h2, .int (nI n), .ref h3, .ref h4, .int (nI ch)])), (h1, .inl (kJ, 500, .inr (.inl sl))), (h2, .inl (kI, 500, .inl nu))] H := hP
  have hD : va_D A [(h0, .inr (4, [.ref h1, .ref h2, .int (nI n), .ref h3, .ref h4, .int (nI ch)])), (h1, .inl (kJ, 500, .inr (.inl sl))), (h2, .inl (kI, 500, .inl nu))] := hD
  refine lv_lstore_n (lv' := [(3, .long (xSlot a k)), (0, .ref h0), (1, .int a), (2, .int k)]) hx hb dSto_read_5 rfl hl (by decide) rfl (fun ls hl => ?_)
  refine lv_aload_n hx hb dSto_read_6 rfl (lv_at hl 1 rfl) ?_
  refine lv_lload_n hx hb dSto_read_7 rfl (lv_at hl 0 rfl) ?_
  refine XM.callVi (As := [.long (xSlot a k)]) (rest := []) (wr := [(h2, .inl (kI, 500, .inl nu))]) stX_ok ⟨hx, hb, hml, hown, hts⟩ (kSto_placeOf l dC dI kI kJ kZ h0 h1 h2 h3 h4 n ch sl (xSlot a k) (hst.1) (hst.2.1)) (cwV 1 hts (x_gV gw524 gw526 gw9 gw39 gw527) rfl rfl rfl (by decide +kernel) ⟨Nat.le_of_ble_eq_true rfl, Nat.le_of_ble_eq_true rfl⟩) hK hP hD hS hA hX [0, 1] [2] rfl rfl (by decide) (by decide) (by decide) rfl rfl rfl rfl hl.1 (Nat.le_of_ble_eq_true rfl) dSto_read_8 ⟨Nat.le_of_ble_eq_true rfl, Nat.le_of_ble_eq_true rfl⟩ (fun r_4 u_3 H locs hw hP hD hS => ?_)
  obtain ⟨q, e9⟩ : ∃ z, z = u_3 := ⟨_, rfl⟩; subst e9
  obtain ⟨rfl, hwPL⟩ := hw
  have hP : va_P (dC, dI) xCl [(h2, .inl (kI, 500, .inl nu)), (h0, .inr (4, [.ref h1, .ref h2, .int (nI n), .ref h3, .ref h4, .int (nI ch)])), (h1, .inl (kJ, 500, .inr (.inl sl)))] H := hP
  have hD : va_D A [(h2, .inl (kI, 500, .inl nu)), (h0, .inr (4, [.ref h1, .ref h2, .int (nI n), .ref h3, .ref h4, .int (nI ch)])), (h1, .inl (kJ, 500, .inr (.inl sl)))] := hD
  have hn5 := hst.1
  have hqn := hwPL.1
  refine lv_istore (lv' := [(5, .int (nI q)), (3, .long (xSlot a k)), (0, .ref h0), (1, .int a), (2, .int k)]) hx hb dSto_read_11 hl (by decide) rfl (fun ls hl => ?_)
  refine lv_iload hx hb dSto_read_13 (lv_at hl 0 rfl) ?_
  refine lv_aload_n hx hb dSto_read_15 rfl (lv_at hl 2 rfl) ?_
  refine va_get (D := (dC, dI)) (ci := 4) (v := .int (nI n)) (C := RSto) (T := TSto) (N := 6) hx hb hts (fun w h => List.mem_cons_of_mem _ (laySto w h)) hown hK hP 1 rfl rfl 2 (by decide) (hts (.fieldLink RSto 25 "CallLedger$Store" "count" "I") (List.mem_cons_of_mem _ gw98)) (fun _ h9 => h9) rfl dSto_read_16 ?_
  refine lv_icmp_ge (tgt := 44) hx hb dSto_read_19 (by decide) (fun c19 => ?_) (fun c19 => ?_)
  · have c19 : n ≤ q := (nI_leI (a := n) (b := q) (by omega) (by omega)).mp c19
    refine lv_iconst (v := 0) hx hb dSto_read_44 (by decide) ?_
    exact hret 0 (()) _ _ _ (by first | exact (ST_get1 hst (by omega) c31).1.symm | exact (ST_get0 hst hwPL (fun _ => c31)).symm | exact (ST_get0 hst hwPL (fun h => absurd h (by omega))).symm) (hP.sub [1, 2, 0] rfl) (hD.sub [1, 2, 0] (by decide) rfl) hS dSto_read_45
  · have c19 : ¬ (n ≤ q) := fun z9 => c19 ((nI_leI (a := n) (b := q) (by omega) (by omega)).mpr z9)
    refine lv_aload_n hx hb dSto_read_22 rfl (lv_at hl 2 rfl) ?_
    refine va_get (D := (dC, dI)) (ci := 4) (v := .ref h1) (C := RSto) (T := TSto) (N := 6) hx hb hts (fun w h => List.mem_cons_of_mem _ (laySto w h)) hown hK hP 1 rfl rfl 0 (by decide) (hts (.fieldLink RSto 9 "CallLedger$Store" "slots" "[J") (List.mem_cons_of_mem _ gw96)) (fun _ h9 => h9) rfl dSto_read_23 ?_
    refine lv_iload hx hb dSto_read_26 (lv_at hl 0 rfl) ?_
    refine x_lald (j := q) hx hb hK hP 2 1 rfl rfl rfl (by omega) (by omega) dSto_read_28 ?_
    refine lv_lload_n hx hb dSto_read_29 rfl (lv_at hl 1 rfl) ?_
    refine W.lcmp hx hb dSto_read_30 ?_
    refine lv_if_ne (tgt := 44) hx hb dSto_read_31 (by decide) (fun c31 => ?_) (fun c31 => ?_)
    · have c31 := fun z => c31 ((lg_cmp_eq _ _).mpr z)
      refine lv_iconst (v := 0) hx hb dSto_read_44 (by decide) ?_
      exact hret 0 (()) _ _ _ (by first | exact (ST_get1 hst (by omega) c31).1.symm | exact (ST_get0 hst hwPL (fun _ => c31)).symm | exact (ST_get0 hst hwPL (fun h => absurd h (by omega))).symm) (hP.sub [1, 2, 0] rfl) (hD.sub [1, 2, 0] (by decide) rfl) hS dSto_read_45
    · have c31 := (lg_cmp_eq _ _).mp c31
      refine lv_aload_n hx hb dSto_read_34 rfl (lv_at hl 2 rfl) ?_
      refine va_get (D := (dC, dI)) (ci := 4) (v := .ref h2) (C := RSto) (T := TSto) (N := 6) hx hb hts (fun w h => List.mem_cons_of_mem _ (laySto w h)) hown hK hP 1 rfl rfl 1 (by decide) (hts (.fieldLink RSto 15 "CallLedger$Store" "numbers" "[I") (List.mem_cons_of_mem _ gw97)) (fun _ h9 => h9) rfl dSto_read_35 ?_
      refine lv_iload hx hb dSto_read_38 (lv_at hl 0 rfl) ?_
      refine x_iald (j := q) hx hb hK hP 0 0 rfl rfl rfl (by omega) (by omega) dSto_read_40 ?_
      refine lv_goto (tgt := 45) hx hb dSto_read_41 (by decide) ?_
      exact hret (nu q) (()) _ _ _ (by first | exact (ST_get1 hst (by omega) c31).1.symm | exact (ST_get0 hst hwPL (fun _ => c31)).symm | exact (ST_get0 hst hwPL (fun h => absurd h (by omega))).symm) (hP.sub [1, 2, 0] rfl) (hD.sub [1, 2, 0] (by decide) rfl) hS dSto_read_45

set_option maxHeartbeats 4000000 in
set_option maxRecDepth 100000 in
theorem kSto_put (l : Launch) (dC : Nat → ClassId) (dI : Nat → Nat → Nat) (kI kJ kZ : ClassId) (h0 : Nat) (h1 : Nat) (h2 : Nat) (h3 : Nat) (h4 : Nat) (n : Nat) (ch : Nat) (sl : Nat → Int64) (nu : Nat → Int32) (σ : Int64 → Int32) (z : Int64) (x : Int32) (hst : ST sl nu n σ) (hful : x ≠ 0 → σ z = 0 → n < 500) :
    XM stX l ySto_put wSto_put { frames := 1, cells := 0, slots := 0, locals := 200 } (dC, dI) xCl (x_T kI kJ kZ) [(h0, .inr (4, [.ref h1, .ref h2, .int (nI n), .ref h3, .ref h4, .int (nI ch)])), (h1, .inl (kJ, 500, .inr (.inl sl))), (h2, .inl (kI, 500, .inl nu))] [.ref h0, .long z, .int x] 0 0 x_eV (fun (r : Unit) (u : (Nat → Int64) × (Nat → Int32) × Nat) => (u.2.2 = mN n (σ z) x) ∧ (ST u.1 u.2.1 u.2.2 (mU σ z x))) (fun (u : (Nat → Int64) × (Nat → Int32) × Nat) => [(h0, .inr (4, [.ref h1, .ref h2, .int (nI u.2.2), .ref h3, .ref h4, .int (nI ch)])), (h1, .inl (kJ, 500, .inr (.inl u.1))), (h2, .inl (kI, 500, .inl u.2.1))]) := by
  refine XM.ofV (cc := cSto_put) (maxL := 6) (by decide) rfl (Nat.le_of_ble_eq_true rfl) ?_
  intro p e s m below meth c A Q hx hb hr hml hown hts hlocks hin hA hK hP hD hX hS ls hl hret
  have hl : lv_has ls 6 [(0, .ref h0), (1, .long z), (3, .int x)] := hl
  refine lv_aload_n hx hb dSto_put_0 rfl (lv_at hl 0 rfl) ?_
  refine lv_lload_n hx hb dSto_put_1 rfl (lv_at hl 1 rfl) ?_
  refine XM.callVi (As := [.long z]) (rest := []) (wr := [(h2, .inl (kI, 500, .inl nu))]) stX_ok ⟨hx, hb, hml, hown, hts⟩ (kSto_placeOf l dC dI kI kJ kZ h0 h1 h2 h3 h4 n ch sl z (hst.1) (hst.2.1)) (cwV 1 hts (x_gV gw524 gw526 gw9 gw39 gw527) rfl rfl rfl (by decide +kernel) ⟨Nat.le_of_ble_eq_true rfl, Nat.le_of_ble_eq_true rfl⟩) hK hP hD hS hA hX [0, 1] [2] rfl rfl (by decide) (by decide) (by decide) rfl rfl rfl rfl hl.1 (Nat.le_of_ble_eq_true rfl) dSto_put_2 ⟨Nat.le_of_ble_eq_true rfl, Nat.le_of_ble_eq_true rfl⟩ (fun r_2 u_1 H locs hw hP hD hS => ?_)
  obtain ⟨q, e9⟩ : ∃ z, z = u_1 := ⟨_, rfl⟩; subst e9
  obtain ⟨rfl, hwPL⟩ := hw
  have hP : va_P (dC, dI) xCl [(h2, .inl (kI, 500, .inl nu)), (h0, .inr (4, [.ref h1, .ref h2, .int (nI n), .ref h3, .ref h4, .int (nI ch)])), (h1, .inl (kJ, 500, .inr (.inl sl)))] H := hP
  have hD : va_D A [(h2, .inl (kI, 500, .inl nu)), (h0, .inr (4, [.ref h1, .ref h2, .int (nI n), .ref h3, .ref h4, .int (nI ch)])), (h1, .inl (kJ, 500, .inr (.inl sl)))] := hD
  have hn5 := hst.1
  have hqn := hwPL.1
  refine lv_istore (lv' := [(4, .int (nI q)), (0, .ref h0), (1, .long z), (3, .int x)]) hx hb dSto_put_5 hl (by decide) rfl (fun ls hl => ?_)
  refine lv_iload hx hb dSto_put_7 (lv_at hl 0 rfl) ?_
  refine lv_aload_n hx hb dSto_put_9 rfl (lv_at hl 1 rfl) ?_
  refine va_get (D := (dC, dI)) (ci := 4) (v := .int (nI n)) (C := RSto) (T := TSto) (N := 6) hx hb hts (fun w h => List.mem_cons_of_mem _ (laySto w h)) hown hK hP 1 rfl rfl 2 (by decide) (hts (.fieldLink RSto 25 "CallLedger$Store" "count" "I") (List.mem_cons_of_mem _ gw98)) (fun _ h9 => h9) rfl dSto_put_10 ?_
  refine lv_icmp_ge (tgt := 32) hx hb dSto_put_13 (by decide) (fun c13 => ?_) (fun c13 => ?_)
  · have c13 : n ≤ q := (nI_leI (a := n) (b := q) (by omega) (by omega)).mp c13
    refine lv_iconst (v := 0) hx hb dSto_put_32 (by decide) ?_
    refine lv_istore (lv' := [(5, .int 0), (4, .int (nI q)), (0, .ref h0), (1, .long z), (3, .int x)]) hx hb dSto_put_33 hl (by decide) rfl (fun ls hl => ?_)
    refine lv_iload hx hb dSto_put_35 (lv_at hl 0 rfl) ?_
    refine lv_if_eq (tgt := 55) hx hb dSto_put_37 (by decide) (fun c37 => ?_) (fun c37 => ?_)
    · refine lv_iload hx hb dSto_put_55 (lv_at hl 0 rfl) ?_
      refine lv_if_eq (tgt := 121) hx hb dSto_put_57 (by decide) (fun c57 => ?_) (fun c57 => ?_)
      · refine lv_iload_n hx hb dSto_put_121 rfl (lv_at hl 4 rfl) ?_
        refine lv_if_eq (tgt := 209) hx hb dSto_put_122 (by decide) (fun c122 => ?_) (fun c122 => ?_)
        · exact hret  ((sl, nu, n)) _ _ _ (⟨by first | (rw [(ST_get1 hst (by omega) c25).1]; simp [mN, (ST_get1 hst (by omega) c25).2, c41]; done) | (rw [ST_get0 hst hwPL (by first | exact fun _ => c25 | exact fun h => absurd h (by omega))]; simp [mN, c122]; done), by first | exact ST_set hst (by omega) c25 c41 | (show ST sl (upd nu q x) n (mU σ z x); exact ST_set (q := q) hst (by omega) c25 c41) | (rw [c41]; exact ST_del hst (by omega) c25) | exact ST_ins hst hwPL (by first | exact fun _ => c25 | exact fun h => absurd h (by omega)) c122 (by omega) | (rw [c122, mU_self (ST_get0 hst hwPL (by first | exact fun _ => c25 | exact fun h => absurd h (by omega)))]; exact hst)⟩) (hP.sub [1, 2, 0] rfl) (hD.sub [1, 2, 0] (by decide) rfl) hS dSto_put_209
        · refine lv_aload_n hx hb dSto_put_125 rfl (lv_at hl 2 rfl) ?_
          refine va_get (D := (dC, dI)) (ci := 4) (v := .int (nI n)) (C := RSto) (T := TSto) (N := 6) hx hb hts (fun w h => List.mem_cons_of_mem _ (laySto w h)) hown hK hP 1 rfl rfl 2 (by decide) (hts (.fieldLink RSto 25 "CallLedger$Store" "count" "I") (List.mem_cons_of_mem _ gw98)) (fun _ h9 => h9) rfl dSto_put_126 ?_
          refine lv_sipush (v := 500) hx hb dSto_put_129 (by decide) ?_
          refine lv_icmp_ge (tgt := 209) hx hb dSto_put_132 (by decide) (fun c132 => ?_) (fun c132 => ?_)
          · have c132 : 500 ≤ n := (nI_leI (a := 500) (b := n) (by omega) (by omega)).mp c132
            exfalso; exact absurd (hful c122 (ST_get0 hst hwPL (by first | exact fun _ => c25 | exact fun h => absurd h (by omega)))) (by omega)
          · have c132 : ¬ (500 ≤ n) := fun z9 => c132 ((nI_leI (a := 500) (b := n) (by omega) (by omega)).mpr z9)
            refine lv_aload_n hx hb dSto_put_135 rfl (lv_at hl 2 rfl) ?_
            refine va_get (D := (dC, dI)) (ci := 4) (v := .ref h1) (C := RSto) (T := TSto) (N := 6) hx hb hts (fun w h => List.mem_cons_of_mem _ (laySto w h)) hown hK hP 1 rfl rfl 0 (by decide) (hts (.fieldLink RSto 9 "CallLedger$Store" "slots" "[J") (List.mem_cons_of_mem _ gw96)) (fun _ h9 => h9) rfl dSto_put_136 ?_
            refine lv_iload hx hb dSto_put_139 (lv_at hl 1 rfl) ?_
            refine lv_aload_n hx hb dSto_put_141 rfl (lv_at hl 2 rfl) ?_
            refine va_get (D := (dC, dI)) (ci := 4) (v := .ref h1) (C := RSto) (T := TSto) (N := 6) hx hb hts (fun w h => List.mem_cons_of_mem _ (laySto w h)) hown hK hP 1 rfl rfl 0 (by decide) (hts (.fieldLink RSto 9 "CallLedger$Store" "slots" "[J") (List.mem_cons_of_mem _ gw96)) (fun _ h9 => h9) rfl dSto_put_142 ?_
            refine lv_iload hx hb dSto_put_145 (lv_at hl 1 rfl) ?_
            refine lv_iconst (v := 1) hx hb dSto_put_147 (by decide) ?_
            refine lv_iadd hx hb dSto_put_148 ?_
            refine x_topi (y := nI (q + 1)) (nI_1 _) ?_
            refine lv_aload_n hx hb dSto_put_149 rfl (lv_at hl 2 rfl) ?_
            refine va_get (D := (dC, dI)) (ci := 4) (v := .int (nI n)) (C := RSto) (T := TSto) (N := 6) hx hb hts (fun w h => List.mem_cons_of_mem _ (laySto w h)) hown hK hP 1 rfl rfl 2 (by decide) (hts (.fieldLink RSto 25 "CallLedger$Store" "count" "I") (List.mem_cons_of_mem _ gw98)) (fun _ h9 => h9) rfl dSto_put_150 ?_
            refine lv_iload hx hb dSto_put_153 (lv_at hl 1 rfl) ?_
            refine lv_isub hx hb dSto_put_155 ?_
            refine x_topi (y := nI (n - q)) (pk_sub (by omega)) ?_
            refine x_copyl (ps := q) (pd := q + 1) (k := n - q) hx hb (hml.trans hl.1.symm) hown (hts (.methodLink RSto 50 arraycopyName) (List.mem_cons_of_mem _ gw580)) (hts (.native arraycopyName) (List.mem_cons_of_mem _ gw473)) (hts (.static arraycopyName) (List.mem_cons_of_mem _ gw472)) (hts (.initialized "java/lang/System") (List.mem_cons_of_mem _ gw50)) hK hP hD hS 2 2 1 1 rfl rfl rfl rfl rfl rfl rfl (by omega) (by omega) (by omega) (by omega) (Nat.le_of_ble_eq_true rfl) (by decide +kernel) dSto_put_156 (fun H locs hP hD hS => ?_)
            have hP : va_P (dC, dI) xCl [(h2, .inl (kI, 500, .inl nu)), (h0, .inr (4, [.ref h1, .ref h2, .int (nI n), .ref h3, .ref h4, .int (nI ch)])), (h1, .inl (kJ, 500, .inr (.inl (va_cpy sl sl q (q + 1) (n - q)))))] H := hP
            have hD : va_D A [(h2, .inl (kI, 500, .inl nu)), (h0, .inr (4, [.ref h1, .ref h2, .int (nI n), .ref h3, .ref h4, .int (nI ch)])), (h1, .inl (kJ, 500, .inr (.inl (va_cpy sl sl q (q + 1) (n - q)))))] := hD
            refine lv_aload_n hx hb dSto_put_159 rfl (lv_at hl 2 rfl) ?_
            refine va_get (D := (dC, dI)) (ci := 4) (v := .ref h2) (C := RSto) (T := TSto) (N := 6) hx hb hts (fun w h => List.mem_cons_of_mem _ (laySto w h)) hown hK hP 1 rfl rfl 1 (by decide) (hts (.fieldLink RSto 15 "CallLedger$Store" "numbers" "[I") (List.mem_cons_of_mem _ gw97)) (fun _ h9 => h9) rfl dSto_put_160 ?_
            refine lv_iload hx hb dSto_put_163 (lv_at hl 1 rfl) ?_
            refine lv_aload_n hx hb dSto_put_165 rfl (lv_at hl 2 rfl) ?_
            refine va_get (D := (dC, dI)) (ci := 4) (v := .ref h2) (C := RSto) (T := TSto) (N := 6) hx hb hts (fun w h => List.mem_cons_of_mem _ (laySto w h)) hown hK hP 1 rfl rfl 1 (by decide) (hts (.fieldLink RSto 15 "CallLedger$Store" "numbers" "[I") (List.mem_cons_of_mem _ gw97)) (fun _ h9 => h9) rfl dSto_put_166 ?_
            refine lv_iload hx hb dSto_put_169 (lv_at hl 1 rfl) ?_
            refine lv_iconst (v := 1) hx hb dSto_put_171 (by decide) ?_
            refine lv_iadd hx hb dSto_put_172 ?_
            refine x_topi (y := nI (q + 1)) (nI_1 _) ?_
            refine lv_aload_n hx hb dSto_put_173 rfl (lv_at hl 2 rfl) ?_
            refine va_get (D := (dC, dI)) (ci := 4) (v := .int (nI n)) (C := RSto) (T := TSto) (N := 6) hx hb hts (fun w h => List.mem_cons_of_mem _ (laySto w h)) hown hK hP 1 rfl rfl 2 (by decide) (hts (.fieldLink RSto 25 "CallLedger$Store" "count" "I") (List.mem_cons_of_mem _ gw98)) (fun _ h9 => h9) rfl dSto_put_174 ?_
            refine lv_iload hx hb dSto_put_177 (lv_at hl 1 rfl) ?_
            refine lv_isub hx hb dSto_put_179 ?_
            refine x_topi (y := nI (n - q)) (pk_sub (by omega)) ?_
            refine x_copyi (ps := q) (pd := q + 1) (k := n - q) hx hb (hml.trans hl.1.symm) hown (hts (.methodLink RSto 50 arraycopyName) (List.mem_cons_of_mem _ gw580)) (hts (.native arraycopyName) (List.mem_cons_of_mem _ gw473)) (hts (.static arraycopyName) (List.mem_cons_of_mem _ gw472)) (hts (.initialized "java/lang/System") (List.mem_cons_of_mem _ gw50)) hK hP hD hS 0 0 0 0 rfl rfl rfl rfl rfl rfl rfl (by omega) (by omega) (by omega) (by omega) (Nat.le_of_ble_eq_true rfl) (by decide +kernel) dSto_put_180 (fun H locs hP hD hS => ?_)
            have hP : va_P (dC, dI) xCl [(h2, .inl (kI, 500, .inl (va_cpy nu nu q (q + 1) (n - q)))), (h0, .inr (4, [.ref h1, .ref h2, .int (nI n), .ref h3, .ref h4, .int (nI ch)])), (h1, .inl (kJ, 500, .inr (.inl (va_cpy sl sl q (q + 1) (n - q)))))] H := hP
            have hD : va_D A [(h2, .inl (kI, 500, .inl (va_cpy nu nu q (q + 1) (n - q)))), (h0, .inr (4, [.ref h1, .ref h2, .int (nI n), .ref h3, .ref h4, .int (nI ch)])), (h1, .inl (kJ, 500, .inr (.inl (va_cpy sl sl q (q + 1) (n - q)))))] := hD
            refine lv_aload_n hx hb dSto_put_183 rfl (lv_at hl 2 rfl) ?_
            refine va_get (D := (dC, dI)) (ci := 4) (v := .ref h1) (C := RSto) (T := TSto) (N := 6) hx hb hts (fun w h => List.mem_cons_of_mem _ (laySto w h)) hown hK hP 1 rfl rfl 0 (by decide) (hts (.fieldLink RSto 9 "CallLedger$Store" "slots" "[J") (List.mem_cons_of_mem _ gw96)) (fun _ h9 => h9) rfl dSto_put_184 ?_
            refine lv_iload hx hb dSto_put_187 (lv_at hl 1 rfl) ?_
            refine lv_lload_n hx hb dSto_put_189 rfl (lv_at hl 3 rfl) ?_
            refine x_last (j := q) hx hb hK hP hD hS 2 1 rfl rfl rfl (by omega) (by omega) dSto_put_190 (fun H locs hP hD hS => ?_)
            have hP : va_P (dC, dI) xCl [(h2, .inl (kI, 500, .inl (va_cpy nu nu q (q + 1) (n - q)))), (h0, .inr (4, [.ref h1, .ref h2, .int (nI n), .ref h3, .ref h4, .int (nI ch)])), (h1, .inl (kJ, 500, .inr (.inl (vp_updL (va_cpy sl sl q (q + 1) (n - q)) q z))))] H := hP
            have hD : va_D A [(h2, .inl (kI, 500, .inl (va_cpy nu nu q (q + 1) (n - q)))), (h0, .inr (4, [.ref h1, .ref h2, .int (nI n), .ref h3, .ref h4, .int (nI ch)])), (h1, .inl (kJ, 500, .inr (.inl (vp_updL (va_cpy sl sl q (q + 1) (n - q)) q z))))] := hD
            refine lv_aload_n hx hb dSto_put_191 rfl (lv_at hl 2 rfl) ?_
            refine va_get (D := (dC, dI)) (ci := 4) (v := .ref h2) (C := RSto) (T := TSto) (N := 6) hx hb hts (fun w h => List.mem_cons_of_mem _ (laySto w h)) hown hK hP 1 rfl rfl 1 (by decide) (hts (.fieldLink RSto 15 "CallLedger$Store" "numbers" "[I") (List.mem_cons_of_mem _ gw97)) (fun _ h9 => h9) rfl dSto_put_192 ?_
            refine lv_iload hx hb dSto_put_195 (lv_at hl 1 rfl) ?_
            refine lv_iload_n hx hb dSto_put_197 rfl (lv_at hl 4 rfl) ?_
            refine x_iast (j := q) hx hb hK hP hD hS 0 0 rfl rfl rfl (by omega) (by omega) dSto_put_198 (fun H locs hP hD hS => ?_)
            have hP : va_P (dC, dI) xCl [(h2, .inl (kI, 500, .inl (upd (va_cpy nu nu q (q + 1) (n - q)) q x))), (h0, .inr (4, [.ref h1, .ref h2, .int (nI n), .ref h3, .ref h4, .int (nI ch)])), (h1, .inl (kJ, 500, .inr (.inl (vp_updL (va_cpy sl sl q (q + 1) (n - q)) q z))))] H := hP
            have hD : va_D A [(h2, .inl (kI, 500, .inl (upd (va_cpy nu nu q (q + 1) (n - q)) q x))), (h0, .inr (4, [.ref h1, .ref h2, .int (nI n), .ref h3, .ref h4, .int (nI ch)])), (h1, .inl (kJ, 500, .inr (.inl (vp_updL (va_cpy sl sl q (q + 1) (n - q)) q z))))] := hD
            refine lv_aload_n hx hb dSto_put_199 rfl (lv_at hl 2 rfl) ?_
            refine lv_dup hx hb dSto_put_200 rfl ?_
            refine va_get (D := (dC, dI)) (ci := 4) (v := .int (nI n)) (C := RSto) (T := TSto) (N := 6) hx hb hts (fun w h => List.mem_cons_of_mem _ (laySto w h)) hown hK hP 1 rfl rfl 2 (by decide) (hts (.fieldLink RSto 25 "CallLedger$Store" "count" "I") (List.mem_cons_of_mem _ gw98)) (fun _ h9 => h9) rfl dSto_put_201 ?_
            refine lv_iconst (v := 1) hx hb dSto_put_204 (by decide) ?_
            refine lv_iadd hx hb dSto_put_205 ?_
            refine x_topi (y := nI (n + 1)) (nI_1 _) ?_
            refine va_put (D := (dC, dI)) (ci := 4) (v := .int (nI (n + 1))) (ty := .int) (C := RSto) (T := TSto) (N := 6) hx hb hts (fun w h => List.mem_cons_of_mem _ (laySto w h)) tySto tykSto nmSto hown hK hP hD hS 1 rfl rfl 2 (by decide) (hts (.fieldLink RSto 25 "CallLedger$Store" "count" "I") (List.mem_cons_of_mem _ gw98)) (fun _ h9 => h9) rfl (by decide +kernel) rfl rfl (Nat.le_of_ble_eq_true rfl) dSto_put_206 (fun H locs hP hD hS => ?_)
            have hP : va_P (dC, dI) xCl [(h2, .inl (kI, 500, .inl (upd (va_cpy nu nu q (q + 1) (n - q)) q x))), (h0, .inr (4, [.ref h1, .ref h2, .int (nI (n + 1)), .ref h3, .ref h4, .int (nI ch)])), (h1, .inl (kJ, 500, .inr (.inl (vp_updL (va_cpy sl sl q (q + 1) (n - q)) q z))))] H := hP
            have hD : va_D A [(h2, .inl (kI, 500, .inl (upd (va_cpy nu nu q (q + 1) (n - q)) q x))), (h0, .inr (4, [.ref h1, .ref h2, .int (nI (n + 1)), .ref h3, .ref h4, .int (nI ch)])), (h1, .inl (kJ, 500, .inr (.inl (vp_updL (va_cpy sl sl q (q + 1) (n - q)) q z))))] := hD
            exact hret  ((vp_updL (va_cpy sl sl q (q + 1) (n - q)) q z, upd (va_cpy nu nu q (q + 1) (n - q)) q x, n + 1)) _ _ _ (⟨by first | (rw [(ST_get1 hst (by omega) c25).1]; simp [mN, (ST_get1 hst (by omega) c25).2, c41]; done) | (rw [ST_get0 hst hwPL (by first | exact fun _ => c25 | exact fun h => absurd h (by omega))]; simp [mN, c122]; done), by first | exact ST_set hst (by omega) c25 c41 | (show ST sl (upd nu q x) n (mU σ z x); exact ST_set (q := q) hst (by omega) c25 c41) | (rw [c41]; exact ST_del hst (by omega) c25) | exact ST_ins hst hwPL (by first | exact fun _ => c25 | exact fun h => absurd h (by omega)) c122 (by omega) | (rw [c122, mU_self (ST_get0 hst hwPL (by first | exact fun _ => c25 | exact fun h => absurd h (by omega)))]; exact hst)⟩) (hP.sub [1, 2, 0] rfl) (hD.sub [1, 2, 0] (by decide) rfl) hS dSto_put_209
      · exact absurd c57 (by decide)
    · exact absurd c37 (by decide)
  · have c13 : ¬ (n ≤ q) := fun z9 => c13 ((nI_leI (a := n) (b := q) (by omega) (by omega)).mpr z9)
    refine lv_aload_n hx hb dSto_put_16 rfl (lv_at hl 1 rfl) ?_
    refine va_get (D := (dC, dI)) (ci := 4) (v := .ref h1) (C := RSto) (T := TSto) (N := 6) hx hb hts (fun w h => List.mem_cons_of_mem _ (laySto w h)) hown hK hP 1 rfl rfl 0 (by decide) (hts (.fieldLink RSto 9 "CallLedger$Store" "slots" "[J") (List.mem_cons_of_mem _ gw96)) (fun _ h9 => h9) rfl dSto_put_17 ?_
    refine lv_iload hx hb dSto_put_20 (lv_at hl 0 rfl) ?_
    refine x_lald (j := q) hx hb hK hP 2 1 rfl rfl rfl (by omega) (by omega) dSto_put_22 ?_
    refine lv_lload_n hx hb dSto_put_23 rfl (lv_at hl 2 rfl) ?_
    refine W.lcmp hx hb dSto_put_24 ?_
    refine lv_if_ne (tgt := 32) hx hb dSto_put_25 (by decide) (fun c25 => ?_) (fun c25 => ?_)
    · have c25 := fun z => c25 ((lg_cmp_eq _ _).mpr z)
      refine lv_iconst (v := 0) hx hb dSto_put_32 (by decide) ?_
      refine lv_istore (lv' := [(5, .int 0), (4, .int (nI q)), (0, .ref h0), (1, .long z), (3, .int x)]) hx hb dSto_put_33 hl (by decide) rfl (fun ls hl => ?_)
      refine lv_iload hx hb dSto_put_35 (lv_at hl 0 rfl) ?_
      refine lv_if_eq (tgt := 55) hx hb dSto_put_37 (by decide) (fun c37 => ?_) (fun c37 => ?_)
      · refine lv_iload hx hb dSto_put_55 (lv_at hl 0 rfl) ?_
        refine lv_if_eq (tgt := 121) hx hb dSto_put_57 (by decide) (fun c57 => ?_) (fun c57 => ?_)
        · refine lv_iload_n hx hb dSto_put_121 rfl (lv_at hl 4 rfl) ?_
          refine lv_if_eq (tgt := 209) hx hb dSto_put_122 (by decide) (fun c122 => ?_) (fun c122 => ?_)
          · exact hret  ((sl, nu, n)) _ _ _ (⟨by first | (rw [(ST_get1 hst (by omega) c25).1]; simp [mN, (ST_get1 hst (by omega) c25).2, c41]; done) | (rw [ST_get0 hst hwPL (by first | exact fun _ => c25 | exact fun h => absurd h (by omega))]; simp [mN, c122]; done), by first | exact ST_set hst (by omega) c25 c41 | (show ST sl (upd nu q x) n (mU σ z x); exact ST_set (q := q) hst (by omega) c25 c41) | (rw [c41]; exact ST_del hst (by omega) c25) | exact ST_ins hst hwPL (by first | exact fun _ => c25 | exact fun h => absurd h (by omega)) c122 (by omega) | (rw [c122, mU_self (ST_get0 hst hwPL (by first | exact fun _ => c25 | exact fun h => absurd h (by omega)))]; exact hst)⟩) (hP.sub [1, 2, 0] rfl) (hD.sub [1, 2, 0] (by decide) rfl) hS dSto_put_209
          · refine lv_aload_n hx hb dSto_put_125 rfl (lv_at hl 2 rfl) ?_
            refine va_get (D := (dC, dI)) (ci := 4) (v := .int (nI n)) (C := RSto) (T := TSto) (N := 6) hx hb hts (fun w h => List.mem_cons_of_mem _ (laySto w h)) hown hK hP 1 rfl rfl 2 (by decide) (hts (.fieldLink RSto 25 "CallLedger$Store" "count" "I") (List.mem_cons_of_mem _ gw98)) (fun _ h9 => h9) rfl dSto_put_126 ?_
            refine lv_sipush (v := 500) hx hb dSto_put_129 (by decide) ?_
            refine lv_icmp_ge (tgt := 209) hx hb dSto_put_132 (by decide) (fun c132 => ?_) (fun c132 => ?_)
            · have c132 : 500 ≤ n := (nI_leI (a := 500) (b := n) (by omega) (by omega)).mp c132
              exfalso; exact absurd (hful c122 (ST_get0 hst hwPL (by first | exact fun _ => c25 | exact fun h => absurd h (by omega)))) (by omega)
            · have c132 : ¬ (500 ≤ n) := fun z9 => c132 ((nI_leI (a := 500) (b := n) (by omega) (by omega)).mpr z9)
              refine lv_aload_n hx hb dSto_put_135 rfl (lv_at hl 2 rfl) ?_
              refine va_get (D := (dC, dI)) (ci := 4) (v := .ref h1) (C := RSto) (T := TSto) (N := 6) hx hb hts (fun w h => List.mem_cons_of_mem _ (laySto w h)) hown hK hP 1 rfl rfl 0 (by decide) (hts (.fieldLink RSto 9 "CallLedger$Store" "slots" "[J") (List.mem_cons_of_mem _ gw96)) (fun _ h9 => h9) rfl dSto_put_136 ?_
              refine lv_iload hx hb dSto_put_139 (lv_at hl 1 rfl) ?_
              refine lv_aload_n hx hb dSto_put_141 rfl (lv_at hl 2 rfl) ?_
              refine va_get (D := (dC, dI)) (ci := 4) (v := .ref h1) (C := RSto) (T := TSto) (N := 6) hx hb hts (fun w h => List.mem_cons_of_mem _ (laySto w h)) hown hK hP 1 rfl rfl 0 (by decide) (hts (.fieldLink RSto 9 "CallLedger$Store" "slots" "[J") (List.mem_cons_of_mem _ gw96)) (fun _ h9 => h9) rfl dSto_put_142 ?_
              refine lv_iload hx hb dSto_put_145 (lv_at hl 1 rfl) ?_
              refine lv_iconst (v := 1) hx hb dSto_put_147 (by decide) ?_
              refine lv_iadd hx hb dSto_put_148 ?_
              refine x_topi (y := nI (q + 1)) (nI_1 _) ?_
              refine lv_aload_n hx hb dSto_put_149 rfl (lv_at hl 2 rfl) ?_
              refine va_get (D := (dC, dI)) (ci := 4) (v := .int (nI n)) (C := RSto) (T := TSto) (N := 6) hx hb hts (fun w h => List.mem_cons_of_mem _ (laySto w h)) hown hK hP 1 rfl rfl 2 (by decide) (hts (.fieldLink RSto 25 "CallLedger$Store" "count" "I") (List.mem_cons_of_mem _ gw98)) (fun _ h9 => h9) rfl dSto_put_150 ?_
              refine lv_iload hx hb dSto_put_153 (lv_at hl 1 rfl) ?_
              refine lv_isub hx hb dSto_put_155 ?_
              refine x_topi (y := nI (n - q)) (pk_sub (by omega)) ?_
              refine x_copyl (ps := q) (pd := q + 1) (k := n - q) hx hb (hml.trans hl.1.symm) hown (hts (.methodLink RSto 50 arraycopyName) (List.mem_cons_of_mem _ gw580)) (hts (.native arraycopyName) (List.mem_cons_of_mem _ gw473)) (hts (.static arraycopyName) (List.mem_cons_of_mem _ gw472)) (hts (.initialized "java/lang/System") (List.mem_cons_of_mem _ gw50)) hK hP hD hS 2 2 1 1 rfl rfl rfl rfl rfl rfl rfl (by omega) (by omega) (by omega) (by omega) (Nat.le_of_ble_eq_true rfl) (by decide +kernel) dSto_put_156 (fun H locs hP hD hS => ?_)
              have hP : va_P (dC, dI) xCl [(h2, .inl (kI, 500, .inl nu)), (h0, .inr (4, [.ref h1, .ref h2, .int (nI n), .ref h3, .ref h4, .int (nI ch)])), (h1, .inl (kJ, 500, .inr (.inl (va_cpy sl sl q (q + 1) (n - q)))))] H := hP
              have hD : va_D A [(h2, .inl (kI, 500, .inl nu)), (h0, .inr (4, [.ref h1, .ref h2, .int (nI n), .ref h3, .ref h4, .int (nI ch)])), (h1, .inl (kJ, 500, .inr (.inl (va_cpy sl sl q (q + 1) (n - q)))))] := hD
              refine lv_aload_n hx hb dSto_put_159 rfl (lv_at hl 2 rfl) ?_
              refine va_get (D := (dC, dI)) (ci := 4) (v := .ref h2) (C := RSto) (T := TSto) (N := 6) hx hb hts (fun w h => List.mem_cons_of_mem _ (laySto w h)) hown hK hP 1 rfl rfl 1 (by decide) (hts (.fieldLink RSto 15 "CallLedger$Store" "numbers" "[I") (List.mem_cons_of_mem _ gw97)) (fun _ h9 => h9) rfl dSto_put_160 ?_
              refine lv_iload hx hb dSto_put_163 (lv_at hl 1 rfl) ?_
              refine lv_aload_n hx hb dSto_put_165 rfl (lv_at hl 2 rfl) ?_
              refine va_get (D := (dC, dI)) (ci := 4) (v := .ref h2) (C := RSto) (T := TSto) (N := 6) hx hb hts (fun w h => List.mem_cons_of_mem _ (laySto w h)) hown hK hP 1 rfl rfl 1 (by decide) (hts (.fieldLink RSto 15 "CallLedger$Store" "numbers" "[I") (List.mem_cons_of_mem _ gw97)) (fun _ h9 => h9) rfl dSto_put_166 ?_
              refine lv_iload hx hb dSto_put_169 (lv_at hl 1 rfl) ?_
              refine lv_iconst (v := 1) hx hb dSto_put_171 (by decide) ?_
              refine lv_iadd hx hb dSto_put_172 ?_
              refine x_topi (y := nI (q + 1)) (nI_1 _) ?_
              refine lv_aload_n hx hb dSto_put_173 rfl (lv_at hl 2 rfl) ?_
              refine va_get (D := (dC, dI)) (ci := 4) (v := .int (nI n)) (C := RSto) (T := TSto) (N := 6) hx hb hts (fun w h => List.mem_cons_of_mem _ (laySto w h)) hown hK hP 1 rfl rfl 2 (by decide) (hts (.fieldLink RSto 25 "CallLedger$Store" "count" "I") (List.mem_cons_of_mem _ gw98)) (fun _ h9 => h9) rfl dSto_put_174 ?_
              refine lv_iload hx hb dSto_put_177 (lv_at hl 1 rfl) ?_
              refine lv_isub hx hb dSto_put_179 ?_
              refine x_topi (y := nI (n - q)) (pk_sub (by omega)) ?_
              refine x_copyi (ps := q) (pd := q + 1) (k := n - q) hx hb (hml.trans hl.1.symm) hown (hts (.methodLink RSto 50 arraycopyName) (List.mem_cons_of_mem _ gw580)) (hts (.native arraycopyName) (List.mem_cons_of_mem _ gw473)) (hts (.static arraycopyName) (List.mem_cons_of_mem _ gw472)) (hts (.initialized "java/lang/System") (List.mem_cons_of_mem _ gw50)) hK hP hD hS 0 0 0 0 rfl rfl rfl rfl rfl rfl rfl (by omega) (by omega) (by omega) (by omega) (Nat.le_of_ble_eq_true rfl) (by decide +kernel) dSto_put_180 (fun H locs hP hD hS => ?_)
              have hP : va_P (dC, dI) xCl [(h2, .inl (kI, 500, .inl (va_cpy nu nu q (q + 1) (n - q)))), (h0, .inr (4, [.ref h1, .ref h2, .int (nI n), .ref h3, .ref h4, .int (nI ch)])), (h1, .inl (kJ, 500, .inr (.inl (va_cpy sl sl q (q + 1) (n - q)))))] H := hP
              have hD : va_D A [(h2, .inl (kI, 500, .inl (va_cpy nu nu q (q + 1) (n - q)))), (h0, .inr (4, [.ref h1, .ref h2, .int (nI n), .ref h3, .ref h4, .int (nI ch)])), (h1, .inl (kJ, 500, .inr (.inl (va_cpy sl sl q (q + 1) (n - q)))))] := hD
              refine lv_aload_n hx hb dSto_put_183 rfl (lv_at hl 2 rfl) ?_
              refine va_get (D := (dC, dI)) (ci := 4) (v := .ref h1) (C := RSto) (T := TSto) (N := 6) hx hb hts (fun w h => List.mem_cons_of_mem _ (laySto w h)) hown hK hP 1 rfl rfl 0 (by decide) (hts (.fieldLink RSto 9 "CallLedger$Store" "slots" "[J") (List.mem_cons_of_mem _ gw96)) (fun _ h9 => h9) rfl dSto_put_184 ?_
              refine lv_iload hx hb dSto_put_187 (lv_at hl 1 rfl) ?_
              refine lv_lload_n hx hb dSto_put_189 rfl (lv_at hl 3 rfl) ?_
              refine x_last (j := q) hx hb hK hP hD hS 2 1 rfl rfl rfl (by omega) (by omega) dSto_put_190 (fun H locs hP hD hS => ?_)
              have hP : va_P (dC, dI) xCl [(h2, .inl (kI, 500, .inl (va_cpy nu nu q (q + 1) (n - q)))), (h0, .inr (4, [.ref h1, .ref h2, .int (nI n), .ref h3, .ref h4, .int (nI ch)])), (h1, .inl (kJ, 500, .inr (.inl (vp_updL (va_cpy sl sl q (q + 1) (n - q)) q z))))] H := hP
              have hD : va_D A [(h2, .inl (kI, 500, .inl (va_cpy nu nu q (q + 1) (n - q)))), (h0, .inr (4, [.ref h1, .ref h2, .int (nI n), .ref h3, .ref h4, .int (nI ch)])), (h1, .inl (kJ, 500, .inr (.inl (vp_updL (va_cpy sl sl q (q + 1) (n - q)) q z))))] := hD
              refine lv_aload_n hx hb dSto_put_191 rfl (lv_at hl 2 rfl) ?_
              refine va_get (D := (dC, dI)) (ci := 4) (v := .ref h2) (C := RSto) (T := TSto) (N := 6) hx hb hts (fun w h => List.mem_cons_of_mem _ (laySto w h)) hown hK hP 1 rfl rfl 1 (by decide) (hts (.fieldLink RSto 15 "CallLedger$Store" "numbers" "[I") (List.mem_cons_of_mem _ gw97)) (fun _ h9 => h9) rfl dSto_put_192 ?_
              refine lv_iload hx hb dSto_put_195 (lv_at hl 1 rfl) ?_
              refine lv_iload_n hx hb dSto_put_197 rfl (lv_at hl 4 rfl) ?_
              refine x_iast (j := q) hx hb hK hP hD hS 0 0 rfl rfl rfl (by omega) (by omega) dSto_put_198 (fun H locs hP hD hS => ?_)
              have hP : va_P (dC, dI) xCl [(h2, .inl (kI, 500, .inl (upd (va_cpy nu nu q (q + 1) (n - q)) q x))), (h0, .inr (4, [.ref h1, .ref h2, .int (nI n), .ref h3, .ref h4, .int (nI ch)])), (h1, .inl (kJ, 500, .inr (.inl (vp_updL (va_cpy sl sl q (q + 1) (n - q)) q z))))] H := hP
              have hD : va_D A [(h2, .inl (kI, 500, .inl (upd (va_cpy nu nu q (q + 1) (n - q)) q x))), (h0, .inr (4, [.ref h1, .ref h2, .int (nI n), .ref h3, .ref h4, .int (nI ch)])), (h1, .inl (kJ, 500, .inr (.inl (vp_updL (va_cpy sl sl q (q + 1) (n - q)) q z))))] := hD
              refine lv_aload_n hx hb dSto_put_199 rfl (lv_at hl 2 rfl) ?_
              refine lv_dup hx hb dSto_put_200 rfl ?_
              refine va_get (D := (dC, dI)) (ci := 4) (v := .int (nI n)) (C := RSto) (T := TSto) (N := 6) hx hb hts (fun w h => List.mem_cons_of_mem _ (laySto w h)) hown hK hP 1 rfl rfl 2 (by decide) (hts (.fieldLink RSto 25 "CallLedger$Store" "count" "I") (List.mem_cons_of_mem _ gw98)) (fun _ h9 => h9) rfl dSto_put_201 ?_
              refine lv_iconst (v := 1) hx hb dSto_put_204 (by decide) ?_
              refine lv_iadd hx hb dSto_put_205 ?_
              refine x_topi (y := nI (n + 1)) (nI_1 _) ?_
              refine va_put (D := (dC, dI)) (ci := 4) (v := .int (nI (n + 1))) (ty := .int) (C := RSto) (T := TSto) (N := 6) hx hb hts (fun w h => List.mem_cons_of_mem _ (laySto w h)) tySto tykSto nmSto hown hK hP hD hS 1 rfl rfl 2 (by decide) (hts (.fieldLink RSto 25 "CallLedger$Store" "count" "I") (List.mem_cons_of_mem _ gw98)) (fun _ h9 => h9) rfl (by decide +kernel) rfl rfl (Nat.le_of_ble_eq_true rfl) dSto_put_206 (fun H locs hP hD hS => ?_)
              have hP : va_P (dC, dI) xCl [(h2, .inl (kI, 500, .inl (upd (va_cpy nu nu q (q + 1) (n - q)) q x))), (h0, .inr (4, [.ref h1, .ref h2, .int (nI (n + 1)), .ref h3, .ref h4, .int (nI ch)])), (h1, .inl (kJ, 500, .inr (.inl (vp_updL (va_cpy sl sl q (q + 1) (n - q)) q z))))] H := hP
              have hD : va_D A [(h2, .inl (kI, 500, .inl (upd (va_cpy nu nu q (q + 1) (n - q)) q x))), (h0, .inr (4, [.ref h1, .ref h2, .int (nI (n + 1)), .ref h3, .ref h4, .int (nI ch)])), (h1, .inl (kJ, 500, .inr (.inl (vp_updL (va_cpy sl sl q (q + 1) (n - q)) q z))))] := hD
              exact hret  ((vp_updL (va_cpy sl sl q (q + 1) (n - q)) q z, upd (va_cpy nu nu q (q + 1) (n - q)) q x, n + 1)) _ _ _ (⟨by first | (rw [(ST_get1 hst (by omega) c25).1]; simp [mN, (ST_get1 hst (by omega) c25).2, c41]; done) | (rw [ST_get0 hst hwPL (by first | exact fun _ => c25 | exact fun h => absurd h (by omega))]; simp [mN, c122]; done), by first | exact ST_set hst (by omega) c25 c41 | (show ST sl (upd nu q x) n (mU σ z x); exact ST_set (q := q) hst (by omega) c25 c41) | (rw [c41]; exact ST_del hst (by omega) c25) | exact ST_ins hst hwPL (by first | exact fun _ => c25 | exact fun h => absurd h (by omega)) c122 (by omega) | (rw [c122, mU_self (ST_get0 hst hwPL (by first | exact fun _ => c25 | exact fun h => absurd h (by omega)))]; exact hst)⟩) (hP.sub [1, 2, 0] rfl) (hD.sub [1, 2, 0] (by decide) rfl) hS dSto_put_209
        · exact absurd c57 (by decide)
      · exact absurd c37 (by decide)
    · have c25 := (lg_cmp_eq _ _).mp c25
      refine lv_iconst (v := 1) hx hb dSto_put_28 (by decide) ?_
      refine lv_goto (tgt := 33) hx hb dSto_put_29 (by decide) ?_
      refine lv_istore (lv' := [(5, .int 1), (4, .int (nI q)), (0, .ref h0), (1, .long z), (3, .int x)]) hx hb dSto_put_33 hl (by decide) rfl (fun ls hl => ?_)
      refine lv_iload hx hb dSto_put_35 (lv_at hl 0 rfl) ?_
      refine lv_if_eq (tgt := 55) hx hb dSto_put_37 (by decide) (fun c37 => ?_) (fun c37 => ?_)
      · exact absurd c37 (by decide)
      · refine lv_iload_n hx hb dSto_put_40 rfl (lv_at hl 4 rfl) ?_
        refine lv_if_eq (tgt := 55) hx hb dSto_put_41 (by decide) (fun c41 => ?_) (fun c41 => ?_)
        · refine lv_iload hx hb dSto_put_55 (lv_at hl 0 rfl) ?_
          refine lv_if_eq (tgt := 121) hx hb dSto_put_57 (by decide) (fun c57 => ?_) (fun c57 => ?_)
          · exact absurd c57 (by decide)
          · refine lv_aload_n hx hb dSto_put_60 rfl (lv_at hl 2 rfl) ?_
            refine lv_dup hx hb dSto_put_61 rfl ?_
            refine va_get (D := (dC, dI)) (ci := 4) (v := .int (nI n)) (C := RSto) (T := TSto) (N := 6) hx hb hts (fun w h => List.mem_cons_of_mem _ (laySto w h)) hown hK hP 1 rfl rfl 2 (by decide) (hts (.fieldLink RSto 25 "CallLedger$Store" "count" "I") (List.mem_cons_of_mem _ gw98)) (fun _ h9 => h9) rfl dSto_put_62 ?_
            refine lv_iconst (v := 1) hx hb dSto_put_65 (by decide) ?_
            refine lv_isub hx hb dSto_put_66 ?_
            refine x_topi (y := nI (n - 1)) (x_pred (by omega)) ?_
            refine va_put (D := (dC, dI)) (ci := 4) (v := .int (nI (n - 1))) (ty := .int) (C := RSto) (T := TSto) (N := 6) hx hb hts (fun w h => List.mem_cons_of_mem _ (laySto w h)) tySto tykSto nmSto hown hK hP hD hS 1 rfl rfl 2 (by decide) (hts (.fieldLink RSto 25 "CallLedger$Store" "count" "I") (List.mem_cons_of_mem _ gw98)) (fun _ h9 => h9) rfl (by decide +kernel) rfl rfl (Nat.le_of_ble_eq_true rfl) dSto_put_67 (fun H locs hP hD hS => ?_)
            have hP : va_P (dC, dI) xCl [(h2, .inl (kI, 500, .inl nu)), (h0, .inr (4, [.ref h1, .ref h2, .int (nI (n - 1)), .ref h3, .ref h4, .int (nI ch)])), (h1, .inl (kJ, 500, .inr (.inl sl)))] H := hP
            have hD : va_D A [(h2, .inl (kI, 500, .inl nu)), (h0, .inr (4, [.ref h1, .ref h2, .int (nI (n - 1)), .ref h3, .ref h4, .int (nI ch)])), (h1, .inl (kJ, 500, .inr (.inl sl)))] := hD
            refine lv_aload_n hx hb dSto_put_70 rfl (lv_at hl 2 rfl) ?_
            refine va_get (D := (dC, dI)) (ci := 4) (v := .ref h1) (C := RSto) (T := TSto) (N := 6) hx hb hts (fun w h => List.mem_cons_of_mem _ (laySto w h)) hown hK hP 1 rfl rfl 0 (by decide) (hts (.fieldLink RSto 9 "CallLedger$Store" "slots" "[J") (List.mem_cons_of_mem _ gw96)) (fun _ h9 => h9) rfl dSto_put_71 ?_
            refine lv_iload hx hb dSto_put_74 (lv_at hl 1 rfl) ?_
            refine lv_iconst (v := 1) hx hb dSto_put_76 (by decide) ?_
            refine lv_iadd hx hb dSto_put_77 ?_
            refine x_topi (y := nI (q + 1)) (nI_1 _) ?_
            refine lv_aload_n hx hb dSto_put_78 rfl (lv_at hl 2 rfl) ?_
            refine va_get (D := (dC, dI)) (ci := 4) (v := .ref h1) (C := RSto) (T := TSto) (N := 6) hx hb hts (fun w h => List.mem_cons_of_mem _ (laySto w h)) hown hK hP 1 rfl rfl 0 (by decide) (hts (.fieldLink RSto 9 "CallLedger$Store" "slots" "[J") (List.mem_cons_of_mem _ gw96)) (fun _ h9 => h9) rfl dSto_put_79 ?_
            refine lv_iload hx hb dSto_put_82 (lv_at hl 1 rfl) ?_
            refine lv_aload_n hx hb dSto_put_84 rfl (lv_at hl 2 rfl) ?_
            refine va_get (D := (dC, dI)) (ci := 4) (v := .int (nI (n - 1))) (C := RSto) (T := TSto) (N := 6) hx hb hts (fun w h => List.mem_cons_of_mem _ (laySto w h)) hown hK hP 1 rfl rfl 2 (by decide) (hts (.fieldLink RSto 25 "CallLedger$Store" "count" "I") (List.mem_cons_of_mem _ gw98)) (fun _ h9 => h9) rfl dSto_put_85 ?_
            refine lv_iload hx hb dSto_put_88 (lv_at hl 1 rfl) ?_
            refine lv_isub hx hb dSto_put_90 ?_
            refine x_topi (y := nI (n - 1 - q)) (pk_sub (by omega)) ?_
            refine x_copyl (ps := q + 1) (pd := q) (k := n - 1 - q) hx hb (hml.trans hl.1.symm) hown (hts (.methodLink RSto 50 arraycopyName) (List.mem_cons_of_mem _ gw580)) (hts (.native arraycopyName) (List.mem_cons_of_mem _ gw473)) (hts (.static arraycopyName) (List.mem_cons_of_mem _ gw472)) (hts (.initialized "java/lang/System") (List.mem_cons_of_mem _ gw50)) hK hP hD hS 2 2 1 1 rfl rfl rfl rfl rfl rfl rfl (by omega) (by omega) (by omega) (by omega) (Nat.le_of_ble_eq_true rfl) (by decide +kernel) dSto_put_91 (fun H locs hP hD hS => ?_)
            have hP : va_P (dC, dI) xCl [(h2, .inl (kI, 500, .inl nu)), (h0, .inr (4, [.ref h1, .ref h2, .int (nI (n - 1)), .ref h3, .ref h4, .int (nI ch)])), (h1, .inl (kJ, 500, .inr (.inl (va_cpy sl sl (q + 1) q (n - 1 - q)))))] H := hP
            have hD : va_D A [(h2, .inl (kI, 500, .inl nu)), (h0, .inr (4, [.ref h1, .ref h2, .int (nI (n - 1)), .ref h3, .ref h4, .int (nI ch)])), (h1, .inl (kJ, 500, .inr (.inl (va_cpy sl sl (q + 1) q (n - 1 - q)))))] := hD
            refine lv_aload_n hx hb dSto_put_94 rfl (lv_at hl 2 rfl) ?_
            refine va_get (D := (dC, dI)) (ci := 4) (v := .ref h2) (C := RSto) (T := TSto) (N := 6) hx hb hts (fun w h => List.mem_cons_of_mem _ (laySto w h)) hown hK hP 1 rfl rfl 1 (by decide) (hts (.fieldLink RSto 15 "CallLedger$Store" "numbers" "[I") (List.mem_cons_of_mem _ gw97)) (fun _ h9 => h9) rfl dSto_put_95 ?_
            refine lv_iload hx hb dSto_put_98 (lv_at hl 1 rfl) ?_
            refine lv_iconst (v := 1) hx hb dSto_put_100 (by decide) ?_
            refine lv_iadd hx hb dSto_put_101 ?_
            refine x_topi (y := nI (q + 1)) (nI_1 _) ?_
            refine lv_aload_n hx hb dSto_put_102 rfl (lv_at hl 2 rfl) ?_
            refine va_get (D := (dC, dI)) (ci := 4) (v := .ref h2) (C := RSto) (T := TSto) (N := 6) hx hb hts (fun w h => List.mem_cons_of_mem _ (laySto w h)) hown hK hP 1 rfl rfl 1 (by decide) (hts (.fieldLink RSto 15 "CallLedger$Store" "numbers" "[I") (List.mem_cons_of_mem _ gw97)) (fun _ h9 => h9) rfl dSto_put_103 ?_
            refine lv_iload hx hb dSto_put_106 (lv_at hl 1 rfl) ?_
            refine lv_aload_n hx hb dSto_put_108 rfl (lv_at hl 2 rfl) ?_
            refine va_get (D := (dC, dI)) (ci := 4) (v := .int (nI (n - 1))) (C := RSto) (T := TSto) (N := 6) hx hb hts (fun w h => List.mem_cons_of_mem _ (laySto w h)) hown hK hP 1 rfl rfl 2 (by decide) (hts (.fieldLink RSto 25 "CallLedger$Store" "count" "I") (List.mem_cons_of_mem _ gw98)) (fun _ h9 => h9) rfl dSto_put_109 ?_
            refine lv_iload hx hb dSto_put_112 (lv_at hl 1 rfl) ?_
            refine lv_isub hx hb dSto_put_114 ?_
            refine x_topi (y := nI (n - 1 - q)) (pk_sub (by omega)) ?_
            refine x_copyi (ps := q + 1) (pd := q) (k := n - 1 - q) hx hb (hml.trans hl.1.symm) hown (hts (.methodLink RSto 50 arraycopyName) (List.mem_cons_of_mem _ gw580)) (hts (.native arraycopyName) (List.mem_cons_of_mem _ gw473)) (hts (.static arraycopyName) (List.mem_cons_of_mem _ gw472)) (hts (.initialized "java/lang/System") (List.mem_cons_of_mem _ gw50)) hK hP hD hS 0 0 0 0 rfl rfl rfl rfl rfl rfl rfl (by omega) (by omega) (by omega) (by omega) (Nat.le_of_ble_eq_true rfl) (by decide +kernel) dSto_put_115 (fun H locs hP hD hS => ?_)
            have hP : va_P (dC, dI) xCl [(h2, .inl (kI, 500, .inl (va_cpy nu nu (q + 1) q (n - 1 - q)))), (h0, .inr (4, [.ref h1, .ref h2, .int (nI (n - 1)), .ref h3, .ref h4, .int (nI ch)])), (h1, .inl (kJ, 500, .inr (.inl (va_cpy sl sl (q + 1) q (n - 1 - q)))))] H := hP
            have hD : va_D A [(h2, .inl (kI, 500, .inl (va_cpy nu nu (q + 1) q (n - 1 - q)))), (h0, .inr (4, [.ref h1, .ref h2, .int (nI (n - 1)), .ref h3, .ref h4, .int (nI ch)])), (h1, .inl (kJ, 500, .inr (.inl (va_cpy sl sl (q + 1) q (n - 1 - q)))))] := hD
            refine lv_goto (tgt := 209) hx hb dSto_put_118 (by decide) ?_
            exact hret  ((va_cpy sl sl (q + 1) q (n - 1 - q), va_cpy nu nu (q + 1) q (n - 1 - q), n - 1)) _ _ _ (⟨by first | (rw [(ST_get1 hst (by omega) c25).1]; simp [mN, (ST_get1 hst (by omega) c25).2, c41]; done) | (rw [ST_get0 hst hwPL (by first | exact fun _ => c25 | exact fun h => absurd h (by omega))]; simp [mN, c122]; done), by first | exact ST_set hst (by omega) c25 c41 | (show ST sl (upd nu q x) n (mU σ z x); exact ST_set (q := q) hst (by omega) c25 c41) | (rw [c41]; exact ST_del hst (by omega) c25) | exact ST_ins hst hwPL (by first | exact fun _ => c25 | exact fun h => absurd h (by omega)) c122 (by omega) | (rw [c122, mU_self (ST_get0 hst hwPL (by first | exact fun _ => c25 | exact fun h => absurd h (by omega)))]; exact hst)⟩) (hP.sub [1, 2, 0] rfl) (hD.sub [1, 2, 0] (by decide) rfl) hS dSto_put_209
        · refine lv_aload_n hx hb dSto_put_44 rfl (lv_at hl 2 rfl) ?_
          refine va_get (D := (dC, dI)) (ci := 4) (v := .ref h2) (C := RSto) (T := TSto) (N := 6) hx hb hts (fun w h => List.mem_cons_of_mem _ (laySto w h)) hown hK hP 1 rfl rfl 1 (by decide) (hts (.fieldLink RSto 15 "CallLedger$Store" "numbers" "[I") (List.mem_cons_of_mem _ gw97)) (fun _ h9 => h9) rfl dSto_put_45 ?_
          refine lv_iload hx hb dSto_put_48 (lv_at hl 1 rfl) ?_
          refine lv_iload_n hx hb dSto_put_50 rfl (lv_at hl 4 rfl) ?_
          refine x_iast (j := q) hx hb hK hP hD hS 0 0 rfl rfl rfl (by omega) (by omega) dSto_put_51 (fun H locs hP hD hS => ?_)
          have hP : va_P (dC, dI) xCl [(h2, .inl (kI, 500, .inl (upd nu q x))), (h0, .inr (4, [.ref h1, .ref h2, .int (nI n), .ref h3, .ref h4, .int (nI ch)])), (h1, .inl (kJ, 500, .inr (.inl sl)))] H := hP
          have hD : va_D A [(h2, .inl (kI, 500, .inl (upd nu q x))), (h0, .inr (4, [.ref h1, .ref h2, .int (nI n), .ref h3, .ref h4, .int (nI ch)])), (h1, .inl (kJ, 500, .inr (.inl sl)))] := hD
          refine lv_goto (tgt := 209) hx hb dSto_put_52 (by decide) ?_
          exact hret  ((sl, upd nu q x, n)) _ _ _ (⟨by first | (rw [(ST_get1 hst (by omega) c25).1]; simp [mN, (ST_get1 hst (by omega) c25).2, c41]; done) | (rw [ST_get0 hst hwPL (by first | exact fun _ => c25 | exact fun h => absurd h (by omega))]; simp [mN, c122]; done), by first | exact ST_set hst (by omega) c25 c41 | (show ST sl (upd nu q x) n (mU σ z x); exact ST_set (q := q) hst (by omega) c25 c41) | (rw [c41]; exact ST_del hst (by omega) c25) | exact ST_ins hst hwPL (by first | exact fun _ => c25 | exact fun h => absurd h (by omega)) c122 (by omega) | (rw [c122, mU_self (ST_get0 hst hwPL (by first | exact fun _ => c25 | exact fun h => absurd h (by omega)))]; exact hst)⟩) (hP.sub [1, 2, 0] rfl) (hD.sub [1, 2, 0] (by decide) rfl) hS dSto_put_209

set_option maxHeartbeats 4000000 in
set_option maxRecDepth 100000 in
theorem kSto_write (l : Launch) (dC : Nat → ClassId) (dI : Nat → Nat → Nat) (kI kJ kZ : ClassId) (h0 : Nat) (h1 : Nat) (h2 : Nat) (h3 : Nat) (h4 : Nat) (n : Nat) (ch : Nat) (sl : Nat → Int64) (nu : Nat → Int32) (cs : Nat → Int64) (nb : Nat → Int32) (σ : Int64 → Int32) (a : Int32) (k : Int32) (x : Int32) (hst : ST sl nu n σ) (hful : x ≠ 0 → σ (xSlot a k) = 0 → n < 500) (hc5 : ch ≤ 500) (hch : σ (xSlot a k) ≠ x → ch < 500) :
    XM stX l ySto_write wSto_write { frames := 2, cells := 0, slots := 0, locals := 225 } (dC, dI) xCl (x_T kI kJ kZ) [(h0, .inr (4, [.ref h1, .ref h2, .int (nI n), .ref h3, .ref h4, .int (nI ch)])), (h1, .inl (kJ, 500, .inr (.inl sl))), (h2, .inl (kI, 500, .inl nu)), (h3, .inl (kJ, 500, .inr (.inl cs))), (h4, .inl (kI, 500, .inl nb))] [.ref h0, .int a, .int k, .int x] 0 0 x_eV (fun (r : Unit) (u : (Nat → Int64) × (Nat → Int32) × Nat × (Nat → Int64) × (Nat → Int32) × Nat) => (u.2.2.1 = mN n (σ (xSlot a k)) x) ∧ (u.2.2.2.1 = if σ (xSlot a k) = x then cs else vp_updL cs ch (xSlot a k)) ∧ (u.2.2.2.2.1 = if σ (xSlot a k) = x then nb else upd nb ch (σ (xSlot a k))) ∧ (u.2.2.2.2.2 = if σ (xSlot a k) = x then ch else ch + 1) ∧ (ST u.1 u.2.1 u.2.2.1 (mU σ (xSlot a k) x))) (fun (u : (Nat → Int64) × (Nat → Int32) × Nat × (Nat → Int64) × (Nat → Int32) × Nat) => [(h0, .inr (4, [.ref h1, .ref h2, .int (nI u.2.2.1), .ref h3, .ref h4, .int (nI u.2.2.2.2.2)])), (h1, .inl (kJ, 500, .inr (.inl u.1))), (h2, .inl (kI, 500, .inl u.2.1)), (h3, .inl (kJ, 500, .inr (.inl u.2.2.2.1))), (h4, .inl (kI, 500, .inl u.2.2.2.2.1))]) := by
  refine XM.ofV (cc := cSto_write) (maxL := 7) (by decide) rfl (Nat.le_of_ble_eq_true rfl) ?_
  intro p e s m below meth c A Q hx hb hr hml hown hts hlocks hin hA hK hP hD hX hS ls hl hret
  have hl : lv_has ls 7 [(0, .ref h0), (1, .int a), (2, .int k), (3, .int x)] := hl
  refine lv_iload_n hx hb dSto_write_0 rfl (lv_at hl 1 rfl) ?_
  refine lv_iload_n hx hb dSto_write_1 rfl (lv_at hl 2 rfl) ?_
  refine XM.callSl (As := [.int a, .int k]) (rest := []) (wr := [(h0, .inr (4, [.ref h1, .ref h2, .int (nI n), .ref h3, .ref h4, .int (nI ch)])), (h1, .inl (kJ, 500, .inr (.inl sl))), (h2, .inl (kI, 500, .inl nu)), (h3, .inl (kJ, 500, .inr (.inl cs))), (h4, .inl (kI, 500, .inl nb))]) stX_ok ⟨hx, hb, hml, hown, hts⟩ (kSto_slotOf l dC dI kI kJ kZ a k ) (va_cwS 2 hts (x_gS gw520 gw521 gw39 gw522) rfl rfl rfl (by decide +kernel) ⟨Nat.le_of_ble_eq_true rfl, Nat.le_of_ble_eq_true rfl⟩) hK hP hD hS hA hX [] [0, 1, 2, 3, 4] rfl rfl (by decide) (by decide) (by decide) rfl rfl hl.1 (Nat.le_of_ble_eq_true rfl) dSto_write_2 ⟨Nat.le_of_ble_eq_true rfl, Nat.le_of_ble_eq_true rfl⟩ (fun r_2 u_1 H locs hw hP hD hS => ?_)
  obtain rfl := hw
  have hP : va_P (dC, dI) xCl [(h0, .inr (4, [.ref h1, .ref h2, .int (nI n), .ref h3, .ref h4, .int (nI ch)])), (h1, .inl (kJ, 500, .inr (.inl sl))), (h2, .inl (kI, 500, .inl nu)), (h3, .inl (kJ, 500, .inr (.inl cs))), (h4, .inl (kI, 500, .inl nb))] H := hP
  have hD : va_D A [(h0, .inr (4, [.ref h1, .ref h2, .int (nI n), .ref h3, .ref h4, .int (nI ch)])), (h1, .inl (kJ, 500, .inr (.inl sl))), (h2, .inl (kI, 500, .inl nu)), (h3, .inl (kJ, 500, .inr (.inl cs))), (h4, .inl (kI, 500, .inl nb))] := hD
  refine lv_lstore (lv' := [(4, .long (xSlot a k)), (0, .ref h0), (1, .int a), (2, .int k), (3, .int x)]) hx hb dSto_write_5 hl (by decide) rfl (fun ls hl => ?_)
  refine lv_aload_n hx hb dSto_write_7 rfl (lv_at hl 1 rfl) ?_
  refine lv_iload_n hx hb dSto_write_8 rfl (lv_at hl 2 rfl) ?_
  refine lv_iload_n hx hb dSto_write_9 rfl (lv_at hl 3 rfl) ?_
  refine XM.callVi (As := [.int a, .int k]) (rest := []) (wr := [(h3, .inl (kJ, 500, .inr (.inl cs))), (h4, .inl (kI, 500, .inl nb))]) stX_ok ⟨hx, hb, hml, hown, hts⟩ (kSto_read l dC dI kI kJ kZ h0 h1 h2 h3 h4 n ch sl nu σ a k (by first | assumption | omega)) (cwV 2 hts (x_gV gw575 gw517 gw518 gw39 gw519) rfl rfl rfl (by decide +kernel) ⟨Nat.le_of_ble_eq_true rfl, Nat.le_of_ble_eq_true rfl⟩) hK hP hD hS hA hX [0, 1, 2] [3, 4] rfl rfl (by decide) (by decide) (by decide) rfl rfl rfl rfl hl.1 (Nat.le_of_ble_eq_true rfl) dSto_write_10 ⟨Nat.le_of_ble_eq_true rfl, Nat.le_of_ble_eq_true rfl⟩ (fun r_4 u_3 H locs hw hP hD hS => ?_)
  obtain rfl := hw
  have hP : va_P (dC, dI) xCl [(h3, .inl (kJ, 500, .inr (.inl cs))), (h4, .inl (kI, 500, .inl nb)), (h0, .inr (4, [.ref h1, .ref h2, .int (nI n), .ref h3, .ref h4, .int (nI ch)])), (h1, .inl (kJ, 500, .inr (.inl sl))), (h2, .inl (kI, 500, .inl nu))] H := hP
  have hD : va_D A [(h3, .inl (kJ, 500, .inr (.inl cs))), (h4, .inl (kI, 500, .inl nb)), (h0, .inr (4, [.ref h1, .ref h2, .int (nI n), .ref h3, .ref h4, .int (nI ch)])), (h1, .inl (kJ, 500, .inr (.inl sl))), (h2, .inl (kI, 500, .inl nu))] := hD
  refine lv_istore (lv' := [(6, .int (σ (xSlot a k))), (4, .long (xSlot a k)), (0, .ref h0), (1, .int a), (2, .int k), (3, .int x)]) hx hb dSto_write_13 hl (by decide) rfl (fun ls hl => ?_)
  refine lv_iload hx hb dSto_write_15 (lv_at hl 0 rfl) ?_
  refine lv_iload_n hx hb dSto_write_17 rfl (lv_at hl 5 rfl) ?_
  refine lv_icmp_eq (tgt := 70) hx hb dSto_write_18 (by decide) (fun c18 => ?_) (fun c18 => ?_)
  · exact hret  ((sl, nu, n, cs, nb, ch)) _ _ _ (⟨by first | rfl | (rw [c18]; unfold mN; split <;> simp_all; done) | exact (mN_same c18).symm, by first | exact (if_pos c18).symm | exact (if_neg c18).symm, by first | exact (if_pos c18).symm | exact (if_neg c18).symm, by first | exact (if_pos c18).symm | exact (if_neg c18).symm, by first | exact hwST | (rw [mU_self c18]; exact hst)⟩) (hP.sub [2, 3, 4, 0, 1] rfl) (hD.sub [2, 3, 4, 0, 1] (by decide) rfl) hS dSto_write_70
  · refine lv_aload_n hx hb dSto_write_21 rfl (lv_at hl 2 rfl) ?_
    refine va_get (D := (dC, dI)) (ci := 4) (v := .int (nI ch)) (C := RSto) (T := TSto) (N := 6) hx hb hts (fun w h => List.mem_cons_of_mem _ (laySto w h)) hown hK hP 2 rfl rfl 5 (by decide) (hts (.fieldLink RSto 41 "CallLedger$Store" "changes" "I") (List.mem_cons_of_mem _ gw101)) (fun _ h9 => h9) rfl dSto_write_22 ?_
    refine lv_sipush (v := 500) hx hb dSto_write_25 (by decide) ?_
    refine lv_icmp_ge (tgt := 70) hx hb dSto_write_28 (by decide) (fun c28 => ?_) (fun c28 => ?_)
    · have c28 : 500 ≤ ch := (nI_leI (a := 500) (b := ch) (by omega) (by omega)).mp c28
      exfalso; have := hch c18; omega
    · have c28 : ¬ (500 ≤ ch) := fun z9 => c28 ((nI_leI (a := 500) (b := ch) (by omega) (by omega)).mpr z9)
      refine lv_aload_n hx hb dSto_write_31 rfl (lv_at hl 2 rfl) ?_
      refine va_get (D := (dC, dI)) (ci := 4) (v := .ref h3) (C := RSto) (T := TSto) (N := 6) hx hb hts (fun w h => List.mem_cons_of_mem _ (laySto w h)) hown hK hP 2 rfl rfl 3 (by decide) (hts (.fieldLink RSto 19 "CallLedger$Store" "changedSlots" "[J") (List.mem_cons_of_mem _ gw99)) (fun _ h9 => h9) rfl dSto_write_32 ?_
      refine lv_aload_n hx hb dSto_write_35 rfl (lv_at hl 2 rfl) ?_
      refine va_get (D := (dC, dI)) (ci := 4) (v := .int (nI ch)) (C := RSto) (T := TSto) (N := 6) hx hb hts (fun w h => List.mem_cons_of_mem _ (laySto w h)) hown hK hP 2 rfl rfl 5 (by decide) (hts (.fieldLink RSto 41 "CallLedger$Store" "changes" "I") (List.mem_cons_of_mem _ gw101)) (fun _ h9 => h9) rfl dSto_write_36 ?_
      refine lv_lload hx hb dSto_write_39 (lv_at hl 1 rfl) ?_
      refine x_last (j := ch) hx hb hK hP hD hS 0 1 rfl rfl rfl (hch c18) (by omega) dSto_write_41 (fun H locs hP hD hS => ?_)
      have hP : va_P (dC, dI) xCl [(h3, .inl (kJ, 500, .inr (.inl (vp_updL cs ch (xSlot a k))))), (h4, .inl (kI, 500, .inl nb)), (h0, .inr (4, [.ref h1, .ref h2, .int (nI n), .ref h3, .ref h4, .int (nI ch)])), (h1, .inl (kJ, 500, .inr (.inl sl))), (h2, .inl (kI, 500, .inl nu))] H := hP
      have hD : va_D A [(h3, .inl (kJ, 500, .inr (.inl (vp_updL cs ch (xSlot a k))))), (h4, .inl (kI, 500, .inl nb)), (h0, .inr (4, [.ref h1, .ref h2, .int (nI n), .ref h3, .ref h4, .int (nI ch)])), (h1, .inl (kJ, 500, .inr (.inl sl))), (h2, .inl (kI, 500, .inl nu))] := hD
      refine lv_aload_n hx hb dSto_write_42 rfl (lv_at hl 2 rfl) ?_
      refine va_get (D := (dC, dI)) (ci := 4) (v := .ref h4) (C := RSto) (T := TSto) (N := 6) hx hb hts (fun w h => List.mem_cons_of_mem _ (laySto w h)) hown hK hP 2 rfl rfl 4 (by decide) (hts (.fieldLink RSto 22 "CallLedger$Store" "numbersBefore" "[I") (List.mem_cons_of_mem _ gw100)) (fun _ h9 => h9) rfl dSto_write_43 ?_
      refine lv_aload_n hx hb dSto_write_46 rfl (lv_at hl 2 rfl) ?_
      refine va_get (D := (dC, dI)) (ci := 4) (v := .int (nI ch)) (C := RSto) (T := TSto) (N := 6) hx hb hts (fun w h => List.mem_cons_of_mem _ (laySto w h)) hown hK hP 2 rfl rfl 5 (by decide) (hts (.fieldLink RSto 41 "CallLedger$Store" "changes" "I") (List.mem_cons_of_mem _ gw101)) (fun _ h9 => h9) rfl dSto_write_47 ?_
      refine lv_iload hx hb dSto_write_50 (lv_at hl 0 rfl) ?_
      refine x_iast (j := ch) hx hb hK hP hD hS 1 0 rfl rfl rfl (hch c18) (by omega) dSto_write_52 (fun H locs hP hD hS => ?_)
      have hP : va_P (dC, dI) xCl [(h3, .inl (kJ, 500, .inr (.inl (vp_updL cs ch (xSlot a k))))), (h4, .inl (kI, 500, .inl (upd nb ch (σ (xSlot a k))))), (h0, .inr (4, [.ref h1, .ref h2, .int (nI n), .ref h3, .ref h4, .int (nI ch)])), (h1, .inl (kJ, 500, .inr (.inl sl))), (h2, .inl (kI, 500, .inl nu))] H := hP
      have hD : va_D A [(h3, .inl (kJ, 500, .inr (.inl (vp_updL cs ch (xSlot a k))))), (h4, .inl (kI, 500, .inl (upd nb ch (σ (xSlot a k))))), (h0, .inr (4, [.ref h1, .ref h2, .int (nI n), .ref h3, .ref h4, .int (nI ch)])), (h1, .inl (kJ, 500, .inr (.inl sl))), (h2, .inl (kI, 500, .inl nu))] := hD
      refine lv_aload_n hx hb dSto_write_53 rfl (lv_at hl 2 rfl) ?_
      refine lv_dup hx hb dSto_write_54 rfl ?_
      refine va_get (D := (dC, dI)) (ci := 4) (v := .int (nI ch)) (C := RSto) (T := TSto) (N := 6) hx hb hts (fun w h => List.mem_cons_of_mem _ (laySto w h)) hown hK hP 2 rfl rfl 5 (by decide) (hts (.fieldLink RSto 41 "CallLedger$Store" "changes" "I") (List.mem_cons_of_mem _ gw101)) (fun _ h9 => h9) rfl dSto_write_55 ?_
      refine lv_iconst (v := 1) hx hb dSto_write_58 (by decide) ?_
      refine lv_iadd hx hb dSto_write_59 ?_
      refine x_topi (y := nI (ch + 1)) (nI_1 _) ?_
      refine va_put (D := (dC, dI)) (ci := 4) (v := .int (nI (ch + 1))) (ty := .int) (C := RSto) (T := TSto) (N := 6) hx hb hts (fun w h => List.mem_cons_of_mem _ (laySto w h)) tySto tykSto nmSto hown hK hP hD hS 2 rfl rfl 5 (by decide) (hts (.fieldLink RSto 41 "CallLedger$Store" "changes" "I") (List.mem_cons_of_mem _ gw101)) (fun _ h9 => h9) rfl (by decide +kernel) rfl rfl (Nat.le_of_ble_eq_true rfl) dSto_write_60 (fun H locs hP hD hS => ?_)
      have hP : va_P (dC, dI) xCl [(h3, .inl (kJ, 500, .inr (.inl (vp_updL cs ch (xSlot a k))))), (h4, .inl (kI, 500, .inl (upd nb ch (σ (xSlot a k))))), (h0, .inr (4, [.ref h1, .ref h2, .int (nI n), .ref h3, .ref h4, .int (nI (ch + 1))])), (h1, .inl (kJ, 500, .inr (.inl sl))), (h2, .inl (kI, 500, .inl nu))] H := hP
      have hD : va_D A [(h3, .inl (kJ, 500, .inr (.inl (vp_updL cs ch (xSlot a k))))), (h4, .inl (kI, 500, .inl (upd nb ch (σ (xSlot a k))))), (h0, .inr (4, [.ref h1, .ref h2, .int (nI n), .ref h3, .ref h4, .int (nI (ch + 1))])), (h1, .inl (kJ, 500, .inr (.inl sl))), (h2, .inl (kI, 500, .inl nu))] := hD
      refine lv_aload_n hx hb dSto_write_63 rfl (lv_at hl 2 rfl) ?_
      refine lv_lload hx hb dSto_write_64 (lv_at hl 1 rfl) ?_
      refine lv_iload_n hx hb dSto_write_66 rfl (lv_at hl 5 rfl) ?_
      refine XM.callVv (As := [.long (xSlot a k), .int x]) (rest := []) (wr := [(h3, .inl (kJ, 500, .inr (.inl (vp_updL cs ch (xSlot a k))))), (h4, .inl (kI, 500, .inl (upd nb ch (σ (xSlot a k)))))]) stX_ok ⟨hx, hb, hml, hown, hts⟩ (kSto_put l dC dI kI kJ kZ h0 h1 h2 h3 h4 n (ch + 1) sl nu σ (xSlot a k) x (by first | assumption | omega) (by first | assumption | omega)) (cwV 2 hts (x_gV gw576 gw578 gw15 gw39 gw579) rfl rfl rfl (by decide +kernel) ⟨Nat.le_of_ble_eq_true rfl, Nat.le_of_ble_eq_true rfl⟩) hK hP hD hS hA hX [2, 3, 4] [0, 1] rfl rfl (by decide) (by decide) (by decide) rfl rfl rfl rfl hl.1 (Nat.le_of_ble_eq_true rfl) dSto_write_67 ⟨Nat.le_of_ble_eq_true rfl, Nat.le_of_ble_eq_true rfl⟩ (fun u_5 H locs hw hP hD hS => ?_)
      obtain ⟨sl2_7, nu2_8, n2_9⟩ := u_5
      try dsimp only at hw
      obtain ⟨rfl, hwST⟩ := hw
      have hP : va_P (dC, dI) xCl [(h3, .inl (kJ, 500, .inr (.inl (vp_updL cs ch (xSlot a k))))), (h4, .inl (kI, 500, .inl (upd nb ch (σ (xSlot a k))))), (h0, .inr (4, [.ref h1, .ref h2, .int (nI (mN n (σ (xSlot a k)) x)), .ref h3, .ref h4, .int (nI (ch + 1))])), (h1, .inl (kJ, 500, .inr (.inl sl2_7))), (h2, .inl (kI, 500, .inl nu2_8))] H := hP
      have hD : va_D A [(h3, .inl (kJ, 500, .inr (.inl (vp_updL cs ch (xSlot a k))))), (h4, .inl (kI, 500, .inl (upd nb ch (σ (xSlot a k))))), (h0, .inr (4, [.ref h1, .ref h2, .int (nI (mN n (σ (xSlot a k)) x)), .ref h3, .ref h4, .int (nI (ch + 1))])), (h1, .inl (kJ, 500, .inr (.inl sl2_7))), (h2, .inl (kI, 500, .inl nu2_8))] := hD
      exact hret  ((sl2_7, nu2_8, mN n (σ (xSlot a k)) x, vp_updL cs ch (xSlot a k), upd nb ch (σ (xSlot a k)), ch + 1)) _ _ _ (⟨by first | rfl | (rw [c18]; unfold mN; split <;> simp_all; done) | exact (mN_same c18).symm, by first | exact (if_pos c18).symm | exact (if_neg c18).symm, by first | exact (if_pos c18).symm | exact (if_neg c18).symm, by first | exact (if_pos c18).symm | exact (if_neg c18).symm, by first | exact hwST | (rw [mU_self c18]; exact hst)⟩) (hP.sub [2, 3, 4, 0, 1] rfl) (hD.sub [2, 3, 4, 0, 1] (by decide) rfl) hS dSto_write_70

set_option maxHeartbeats 4000000 in
set_option maxRecDepth 100000 in
theorem kSto_undoTo (l : Launch) (dC : Nat → ClassId) (dI : Nat → Nat → Nat) (kI kJ kZ : ClassId) (h0 : Nat) (h1 : Nat) (h2 : Nat) (h3 : Nat) (h4 : Nat) (n : Nat) (ch : Nat) (sl : Nat → Int64) (nu : Nat → Int32) (cs : Nat → Int64) (nb : Nat → Int32) (sh : Nat → Int64 → Int32) (nh : Nat → Nat) (e0 : Nat) (hst : ST sl nu n (sh ch)) (hnn : n = nh ch) (hc5 : ch ≤ 500) (hec : e0 ≤ ch) (hstep : ∀ i, e0 ≤ i → i < ch → sh i = mU (sh (i + 1)) (cs i) (nb i) ∧ nh i = mN (nh (i + 1)) (sh (i + 1) (cs i)) (nb i) ∧ nh i ≤ 500) :
    XM stX l ySto_undoTo wSto_undoTo { frames := 2, cells := 0, slots := 0, locals := 225 } (dC, dI) xCl (x_T kI kJ kZ) [(h0, .inr (4, [.ref h1, .ref h2, .int (nI n), .ref h3, .ref h4, .int (nI ch)])), (h1, .inl (kJ, 500, .inr (.inl sl))), (h2, .inl (kI, 500, .inl nu)), (h3, .inl (kJ, 500, .inr (.inl cs))), (h4, .inl (kI, 500, .inl nb))] [.ref h0, .int (nI e0)] 0 0 x_eV (fun (r : Unit) (u : (Nat → Int64) × (Nat → Int32) × Nat) => (u.2.2 = nh e0) ∧ (ST u.1 u.2.1 u.2.2 (sh e0))) (fun (u : (Nat → Int64) × (Nat → Int32) × Nat) => [(h0, .inr (4, [.ref h1, .ref h2, .int (nI u.2.2), .ref h3, .ref h4, .int (nI e0)])), (h1, .inl (kJ, 500, .inr (.inl u.1))), (h2, .inl (kI, 500, .inl u.2.1)), (h3, .inl (kJ, 500, .inr (.inl cs))), (h4, .inl (kI, 500, .inl nb))]) := by
  refine XM.ofV (cc := cSto_undoTo) (maxL := 3) (by decide) rfl (Nat.le_of_ble_eq_true rfl) ?_
  intro p e s m below meth c A Q hx hb hr hml hown hts hlocks hin hA hK hP hD hX hS ls hl hret
  have hl : lv_has ls 3 [(0, .ref h0), (1, .int (nI e0))] := hl
  refine lv_aload_n hx hb dSto_undoTo_0 rfl (lv_at hl 0 rfl) ?_
  refine va_get (D := (dC, dI)) (ci := 4) (v := .int (nI ch)) (C := RSto) (T := TSto) (N := 6) hx hb hts (fun w h => List.mem_cons_of_mem _ (laySto w h)) hown hK hP 0 rfl rfl 5 (by decide) (hts (.fieldLink RSto 41 "CallLedger$Store" "changes" "I") (List.mem_cons_of_mem _ gw101)) (fun _ h9 => h9) rfl dSto_undoTo_1 ?_
  refine lv_iconst (v := 1) hx hb dSto_undoTo_4 (by decide) ?_
  refine lv_isub hx hb dSto_undoTo_5 ?_
  refine lv_istore_n (lv' := [(2, .int ((nI ch) - 1)), (0, .ref h0), (1, .int (nI e0))]) hx hb dSto_undoTo_6 rfl hl (by decide) rfl (fun ls hl => ?_)
  have loop7 : ∀ (N : Nat) (ck : Nat) (sl : Nat → Int64) (nu : Nat → Int32) (n : Nat), ∀ (hN : ck < N) (hst : ST sl nu n (sh ck)) (hnn : n = nh ck) (hc1 : e0 ≤ ck) (hc2 : ck ≤ ch) (H : Heap) (locs : List Loc), va_P (dC, dI) xCl [(h0, .inr (4, [.ref h1, .ref h2, .int (nI n), .ref h3, .ref h4, .int (nI ck)])), (h1, .inl (kJ, 500, .inr (.inl sl))), (h2, .inl (kI, 500, .inl nu)), (h3, .inl (kJ, 500, .inr (.inl cs))), (h4, .inl (kI, 500, .inl nb))] H → va_D A [(h0, .inr (4, [.ref h1, .ref h2, .int (nI n), .ref h3, .ref h4, .int (nI ck)])), (h1, .inl (kJ, 500, .inr (.inl sl))), (h2, .inl (kI, 500, .inl nu)), (h3, .inl (kJ, 500, .inr (.inl cs))), (h4, .inl (kI, 500, .inl nb))] → va_S A s.heap H locs → ∀ ls, lv_has ls 3 [(0, .ref h0), (1, .int (nI e0)), (2, .int (nI ck - 1))] → W p l e { frames := 2, cells := 0, slots := 0, locals := 225 } s m [.ref h0, .int (nI e0)].toArray below meth c H locs 0 0 Q (F0 m 7 ls []) := by
    intro N
    induction N with
    | zero => intro ck sl nu n hN; exact absurd hN (Nat.not_lt_zero _)
    | succ N ih =>
      intro ck sl nu n hN hst hnn hc1 hc2 H locs hP hD hS ls hl
      refine lv_iload_n hx hb dSto_undoTo_7 rfl (lv_at hl 2 rfl) ?_
      refine lv_if_lt (tgt := 43) hx hb dSto_undoTo_8 (by decide) (fun c8 => ?_) (fun c8 => ?_)
      · have c8 := x_sub1_neg (show ck < 2 ^ 30 by omega) c8
        have hce : e0 = ck := by omega
        subst hce
        exact hret  ((sl, nu, n)) _ _ _ (⟨hnn, hst⟩) (hP.sub [0, 1, 2, 3, 4] rfl) (hD.sub [0, 1, 2, 3, 4] (by decide) rfl) hS dSto_undoTo_43
      · have c8 := x_sub1_nneg c8
        refine lv_iload_n hx hb dSto_undoTo_11 rfl (lv_at hl 2 rfl) ?_
        refine x_topi (y := nI (ck - 1)) (x_pred (by omega)) ?_
        refine lv_iload_n hx hb dSto_undoTo_12 rfl (lv_at hl 1 rfl) ?_
        refine lv_icmp_lt (tgt := 43) hx hb dSto_undoTo_13 (by decide) (fun c13 => ?_) (fun c13 => ?_)
        · have c13 : (ck - 1) < e0 := (nI_ltI (a := (ck - 1)) (b := e0) (by omega) (by omega)).mp c13
          have hce : e0 = ck := by omega
          subst hce
          exact hret  ((sl, nu, n)) _ _ _ (⟨hnn, hst⟩) (hP.sub [0, 1, 2, 3, 4] rfl) (hD.sub [0, 1, 2, 3, 4] (by decide) rfl) hS dSto_undoTo_43
        · have c13 : ¬ ((ck - 1) < e0) := fun z9 => c13 ((nI_ltI (a := (ck - 1)) (b := e0) (by omega) (by omega)).mpr z9)
          obtain ⟨g1, g2, g3⟩ := hstep (ck - 1) (by omega) (by omega)
          rw [show ck - 1 + 1 = ck from by omega] at g1 g2
          refine lv_aload_n hx hb dSto_undoTo_16 rfl (lv_at hl 0 rfl) ?_
          refine lv_aload_n hx hb dSto_undoTo_17 rfl (lv_at hl 0 rfl) ?_
          refine va_get (D := (dC, dI)) (ci := 4) (v := .ref h3) (C := RSto) (T := TSto) (N := 6) hx hb hts (fun w h => List.mem_cons_of_mem _ (laySto w h)) hown hK hP 0 rfl rfl 3 (by decide) (hts (.fieldLink RSto 19 "CallLedger$Store" "changedSlots" "[J") (List.mem_cons_of_mem _ gw99)) (fun _ h9 => h9) rfl dSto_undoTo_18 ?_
          refine lv_iload_n hx hb dSto_undoTo_21 rfl (lv_at hl 2 rfl) ?_
          refine x_topi (y := nI (ck - 1)) (x_pred (by omega)) ?_
          refine x_lald (j := ck - 1) hx hb hK hP 3 1 rfl rfl rfl (by omega) (by omega) dSto_undoTo_22 ?_
          refine lv_aload_n hx hb dSto_undoTo_23 rfl (lv_at hl 0 rfl) ?_
          refine va_get (D := (dC, dI)) (ci := 4) (v := .ref h4) (C := RSto) (T := TSto) (N := 6) hx hb hts (fun w h => List.mem_cons_of_mem _ (laySto w h)) hown hK hP 0 rfl rfl 4 (by decide) (hts (.fieldLink RSto 22 "CallLedger$Store" "numbersBefore" "[I") (List.mem_cons_of_mem _ gw100)) (fun _ h9 => h9) rfl dSto_undoTo_24 ?_
          refine lv_iload_n hx hb dSto_undoTo_27 rfl (lv_at hl 2 rfl) ?_
          refine x_topi (y := nI (ck - 1)) (x_pred (by omega)) ?_
          refine x_iald (j := ck - 1) hx hb hK hP 4 0 rfl rfl rfl (by omega) (by omega) dSto_undoTo_28 ?_
          refine XM.callVv (As := [.long (cs (ck - 1)), .int (nb (ck - 1))]) (rest := []) (wr := [(h3, .inl (kJ, 500, .inr (.inl cs))), (h4, .inl (kI, 500, .inl nb))]) stX_ok ⟨hx, hb, hml, hown, hts⟩ (kSto_put l dC dI kI kJ kZ h0 h1 h2 h3 h4 n ck sl nu (sh ck) (cs (ck - 1)) (nb (ck - 1)) (hst) (fun q1 q2 => by rw [q2] at g2; simp only [mN, if_true, if_neg q1] at g2; omega)) (cwV 2 hts (x_gV gw576 gw578 gw15 gw39 gw579) rfl rfl rfl (by decide +kernel) ⟨Nat.le_of_ble_eq_true rfl, Nat.le_of_ble_eq_true rfl⟩) hK hP hD hS hA hX [0, 1, 2] [3, 4] rfl rfl (by decide) (by decide) (by decide) rfl rfl rfl rfl hl.1 (Nat.le_of_ble_eq_true rfl) dSto_undoTo_29 ⟨Nat.le_of_ble_eq_true rfl, Nat.le_of_ble_eq_true rfl⟩ (fun u_1 H locs hw hP hD hS => ?_)
          obtain ⟨sl2_3, nu2_4, n2_5⟩ := u_1
          try dsimp only at hw
          obtain ⟨rfl, hwST⟩ := hw
          have hP : va_P (dC, dI) xCl [(h3, .inl (kJ, 500, .inr (.inl cs))), (h4, .inl (kI, 500, .inl nb)), (h0, .inr (4, [.ref h1, .ref h2, .int (nI (mN n ((sh ck) (cs (ck - 1))) (nb (ck - 1)))), .ref h3, .ref h4, .int (nI ck)])), (h1, .inl (kJ, 500, .inr (.inl sl2_3))), (h2, .inl (kI, 500, .inl nu2_4))] H := hP
          have hD : va_D A [(h3, .inl (kJ, 500, .inr (.inl cs))), (h4, .inl (kI, 500, .inl nb)), (h0, .inr (4, [.ref h1, .ref h2, .int (nI (mN n ((sh ck) (cs (ck - 1))) (nb (ck - 1)))), .ref h3, .ref h4, .int (nI ck)])), (h1, .inl (kJ, 500, .inr (.inl sl2_3))), (h2, .inl (kI, 500, .inl nu2_4))] := hD
          refine lv_aload_n hx hb dSto_undoTo_32 rfl (lv_at hl 0 rfl) ?_
          refine lv_iload_n hx hb dSto_undoTo_33 rfl (lv_at hl 2 rfl) ?_
          refine x_topi (y := nI (ck - 1)) (x_pred (by omega)) ?_
          refine va_put (D := (dC, dI)) (ci := 4) (v := .int (nI (ck - 1))) (ty := .int) (C := RSto) (T := TSto) (N := 6) hx hb hts (fun w h => List.mem_cons_of_mem _ (laySto w h)) tySto tykSto nmSto hown hK hP hD hS 2 rfl rfl 5 (by decide) (hts (.fieldLink RSto 41 "CallLedger$Store" "changes" "I") (List.mem_cons_of_mem _ gw101)) (fun _ h9 => h9) rfl (by decide +kernel) rfl rfl (Nat.le_of_ble_eq_true rfl) dSto_undoTo_34 (fun H locs hP hD hS => ?_)
          have hP : va_P (dC, dI) xCl [(h3, .inl (kJ, 500, .inr (.inl cs))), (h4, .inl (kI, 500, .inl nb)), (h0, .inr (4, [.ref h1, .ref h2, .int (nI (mN n ((sh ck) (cs (ck - 1))) (nb (ck - 1)))), .ref h3, .ref h4, .int (nI (ck - 1))])), (h1, .inl (kJ, 500, .inr (.inl sl2_3))), (h2, .inl (kI, 500, .inl nu2_4))] H := hP
          have hD : va_D A [(h3, .inl (kJ, 500, .inr (.inl cs))), (h4, .inl (kI, 500, .inl nb)), (h0, .inr (4, [.ref h1, .ref h2, .int (nI (mN n ((sh ck) (cs (ck - 1))) (nb (ck - 1)))), .ref h3, .ref h4, .int (nI (ck - 1))])), (h1, .inl (kJ, 500, .inr (.inl sl2_3))), (h2, .inl (kI, 500, .inl nu2_4))] := hD
          have hst2 := hwST
          rw [← g1] at hst2
          refine lv_iinc (v := nI (ck - 1) - 1) (lv' := [(2, .int (nI (ck - 1) - 1)), (0, .ref h0), (1, .int (nI e0))]) hx hb dSto_undoTo_37 hl (k := 2) rfl (x_dec (by omega)) (by decide) rfl (fun ls hl => ?_)
          have hnn2 : mN n (sh ck (cs (ck - 1))) (nb (ck - 1)) = nh (ck - 1) := by rw [g2, hnn]
          refine lv_goto (tgt := 7) hx hb dSto_undoTo_40 (by decide) ?_
          exact ih (ck - 1) sl2_3 nu2_4 (mN n ((sh ck) (cs (ck - 1))) (nb (ck - 1))) (by omega) (hst2) (hnn2) (by omega) (by omega) _ _ (hP.sub [2, 3, 4, 0, 1] rfl) (hD.sub [2, 3, 4, 0, 1] (by decide) rfl) hS _ (lv_sub hl [1, 2, 0] rfl)
  exact loop7 _ ch sl nu n (Nat.lt_succ_self _) (hst) (hnn) (hec) (Nat.le_refl _) _ _ (hP.sub [0, 1, 2, 3, 4] rfl) (hD.sub [0, 1, 2, 3, 4] (by decide) rfl) hS _ (lv_sub hl [1, 2, 0] rfl)

