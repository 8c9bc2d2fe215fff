theorem dX10_row_0 : decode cX10_row 0 = .ok (.aload_n 0, 1) := by decide +kernel
theorem dX10_row_1 : decode cX10_row 1 = .ok (.iconst 0, 1) := by decide +kernel
theorem dX10_row_2 : decode cX10_row 2 = .ok (.putfield 99, 3) := by decide +kernel
theorem dX10_row_5 : decode cX10_row 5 = .ok (.iload_n 1, 1) := by decide +kernel
theorem dX10_row_6 : decode cX10_row 6 = .ok (.ifCond .lt 20, 3) := by decide +kernel
theorem dX10_row_9 : decode cX10_row 9 = .ok (.iload_n 1, 1) := by decide +kernel
theorem dX10_row_10 : decode cX10_row 10 = .ok (.aload_n 0, 1) := by decide +kernel
theorem dX10_row_11 : decode cX10_row 11 = .ok (.getfield 120, 3) := by decide +kernel
theorem dX10_row_14 : decode cX10_row 14 = .ok (.if_icmp .ge 12, 3) := by decide +kernel
theorem dX10_row_17 : decode cX10_row 17 = .ok (.aload_n 0, 1) := by decide +kernel
theorem dX10_row_18 : decode cX10_row 18 = .ok (.getfield 28, 3) := by decide +kernel
theorem dX10_row_21 : decode cX10_row 21 = .ok (.iload_n 1, 1) := by decide +kernel
theorem dX10_row_22 : decode cX10_row 22 = .ok (.iaload, 1) := by decide +kernel
theorem dX10_row_23 : decode cX10_row 23 = .ok (.goto 4, 3) := by decide +kernel
theorem dX10_row_26 : decode cX10_row 26 = .ok (.iconst 0, 1) := by decide +kernel
theorem dX10_row_27 : decode cX10_row 27 = .ok (.ireturn, 1) := by decide +kernel
theorem dX10_codeOf_0 : decode cX10_codeOf 0 = .ok (.lload_n 0, 1) := by decide +kernel
theorem dX10_codeOf_1 : decode cX10_codeOf 1 = .ok (.lconst 0, 1) := by decide +kernel
theorem dX10_codeOf_2 : decode cX10_codeOf 2 = .ok (.lcmp, 1) := by decide +kernel
theorem dX10_codeOf_3 : decode cX10_codeOf 3 = .ok (.ifCond .lt 34, 3) := by decide +kernel
theorem dX10_codeOf_6 : decode cX10_codeOf 6 = .ok (.iload_n 2, 1) := by decide +kernel
theorem dX10_codeOf_7 : decode cX10_codeOf 7 = .ok (.ifCond .ne 7, 3) := by decide +kernel
theorem dX10_codeOf_10 : decode cX10_codeOf 10 = .ok (.lload_n 0, 1) := by decide +kernel
theorem dX10_codeOf_11 : decode cX10_codeOf 11 = .ok (.goto 58, 3) := by decide +kernel
theorem dX10_codeOf_14 : decode cX10_codeOf 14 = .ok (.iload_n 2, 1) := by decide +kernel
theorem dX10_codeOf_15 : decode cX10_codeOf 15 = .ok (.iconst 1, 1) := by decide +kernel
theorem dX10_codeOf_16 : decode cX10_codeOf 16 = .ok (.if_icmp .ne 11, 3) := by decide +kernel
theorem dX10_codeOf_19 : decode cX10_codeOf 19 = .ok (.ldc2_w 123, 3) := by decide +kernel
theorem dX10_codeOf_22 : decode cX10_codeOf 22 = .ok (.lload_n 0, 1) := by decide +kernel
theorem dX10_codeOf_23 : decode cX10_codeOf 23 = .ok (.lmul, 1) := by decide +kernel
theorem dX10_codeOf_24 : decode cX10_codeOf 24 = .ok (.goto 45, 3) := by decide +kernel
theorem dX10_codeOf_27 : decode cX10_codeOf 27 = .ok (.lload_n 0, 1) := by decide +kernel
theorem dX10_codeOf_28 : decode cX10_codeOf 28 = .ok (.lload_n 0, 1) := by decide +kernel
theorem dX10_codeOf_29 : decode cX10_codeOf 29 = .ok (.ldc2_w 125, 3) := by decide +kernel
theorem dX10_codeOf_32 : decode cX10_codeOf 32 = .ok (.ldiv, 1) := by decide +kernel
theorem dX10_codeOf_33 : decode cX10_codeOf 33 = .ok (.ladd, 1) := by decide +kernel
theorem dX10_codeOf_34 : decode cX10_codeOf 34 = .ok (.goto 35, 3) := by decide +kernel
theorem dX10_codeOf_37 : decode cX10_codeOf 37 = .ok (.iload_n 2, 1) := by decide +kernel
theorem dX10_codeOf_38 : decode cX10_codeOf 38 = .ok (.ifCond .ne 9, 3) := by decide +kernel
theorem dX10_codeOf_41 : decode cX10_codeOf 41 = .ok (.ldc2_w 127, 3) := by decide +kernel
theorem dX10_codeOf_44 : decode cX10_codeOf 44 = .ok (.goto 25, 3) := by decide +kernel
theorem dX10_codeOf_47 : decode cX10_codeOf 47 = .ok (.iload_n 2, 1) := by decide +kernel
theorem dX10_codeOf_48 : decode cX10_codeOf 48 = .ok (.iconst 1, 1) := by decide +kernel
theorem dX10_codeOf_49 : decode cX10_codeOf 49 = .ok (.if_icmp .ne 13, 3) := by decide +kernel
theorem dX10_codeOf_52 : decode cX10_codeOf 52 = .ok (.ldc2_w 129, 3) := by decide +kernel
theorem dX10_codeOf_55 : decode cX10_codeOf 55 = .ok (.lload_n 0, 1) := by decide +kernel
theorem dX10_codeOf_56 : decode cX10_codeOf 56 = .ok (.lmul, 1) := by decide +kernel
theorem dX10_codeOf_57 : decode cX10_codeOf 57 = .ok (.lconst 1, 1) := by decide +kernel
theorem dX10_codeOf_58 : decode cX10_codeOf 58 = .ok (.lsub, 1) := by decide +kernel
theorem dX10_codeOf_59 : decode cX10_codeOf 59 = .ok (.goto 10, 3) := by decide +kernel
theorem dX10_codeOf_62 : decode cX10_codeOf 62 = .ok (.ldc2_w 131, 3) := by decide +kernel
theorem dX10_codeOf_65 : decode cX10_codeOf 65 = .ok (.lload_n 0, 1) := by decide +kernel
theorem dX10_codeOf_66 : decode cX10_codeOf 66 = .ok (.lmul, 1) := by decide +kernel
theorem dX10_codeOf_67 : decode cX10_codeOf 67 = .ok (.lconst 1, 1) := by decide +kernel
theorem dX10_codeOf_68 : decode cX10_codeOf 68 = .ok (.lsub, 1) := by decide +kernel
theorem dX10_codeOf_69 : decode cX10_codeOf 69 = .ok (.lstore_n 3, 1) := by decide +kernel
theorem dX10_codeOf_70 : decode cX10_codeOf 70 = .ok (.lload_n 3, 1) := by decide +kernel
theorem dX10_codeOf_71 : decode cX10_codeOf 71 = .ok (.ldc2_w 133, 3) := by decide +kernel
theorem dX10_codeOf_74 : decode cX10_codeOf 74 = .ok (.lcmp, 1) := by decide +kernel
theorem dX10_codeOf_75 : decode cX10_codeOf 75 = .ok (.ifCond .ge 7, 3) := by decide +kernel
theorem dX10_codeOf_78 : decode cX10_codeOf 78 = .ok (.lload_n 3, 1) := by decide +kernel
theorem dX10_codeOf_79 : decode cX10_codeOf 79 = .ok (.goto 6, 3) := by decide +kernel
theorem dX10_codeOf_82 : decode cX10_codeOf 82 = .ok (.ldc2_w 127, 3) := by decide +kernel
theorem dX10_codeOf_85 : decode cX10_codeOf 85 = .ok (.lreturn, 1) := by decide +kernel
theorem dX10_bytes_0 : decode cX10_bytes 0 = .ok (.iload_n 2, 1) := by decide +kernel
theorem dX10_bytes_1 : decode cX10_bytes 1 = .ok (.i2l, 1) := by decide +kernel
theorem dX10_bytes_2 : decode cX10_bytes 2 = .ok (.aload_n 0, 1) := by decide +kernel
theorem dX10_bytes_3 : decode cX10_bytes 3 = .ok (.getfield 19, 3) := by decide +kernel
theorem dX10_bytes_6 : decode cX10_bytes 6 = .ok (.iload_n 1, 1) := by decide +kernel
theorem dX10_bytes_7 : decode cX10_bytes 7 = .ok (.iaload, 1) := by decide +kernel
theorem dX10_bytes_8 : decode cX10_bytes 8 = .ok (.invokestatic 135, 3) := by decide +kernel
theorem dX10_bytes_11 : decode cX10_bytes 11 = .ok (.lstore 4, 2) := by decide +kernel
theorem dX10_bytes_13 : decode cX10_bytes 13 = .ok (.lload 4, 2) := by decide +kernel
theorem dX10_bytes_15 : decode cX10_bytes 15 = .ok (.lconst 0, 1) := by decide +kernel
theorem dX10_bytes_16 : decode cX10_bytes 16 = .ok (.lcmp, 1) := by decide +kernel
theorem dX10_bytes_17 : decode cX10_bytes 17 = .ok (.ifCond .ge 5, 3) := by decide +kernel
theorem dX10_bytes_20 : decode cX10_bytes 20 = .ok (.iconst 0, 1) := by decide +kernel
theorem dX10_bytes_21 : decode cX10_bytes 21 = .ok (.ireturn, 1) := by decide +kernel
theorem dX10_bytes_22 : decode cX10_bytes 22 = .ok (.aload_n 0, 1) := by decide +kernel
theorem dX10_bytes_23 : decode cX10_bytes 23 = .ok (.getfield 16, 3) := by decide +kernel
theorem dX10_bytes_26 : decode cX10_bytes 26 = .ok (.iload_n 1, 1) := by decide +kernel
theorem dX10_bytes_27 : decode cX10_bytes 27 = .ok (.iaload, 1) := by decide +kernel
theorem dX10_bytes_28 : decode cX10_bytes 28 = .ok (.istore 6, 2) := by decide +kernel
theorem dX10_bytes_30 : decode cX10_bytes 30 = .ok (.sipush 256, 3) := by decide +kernel
theorem dX10_bytes_33 : decode cX10_bytes 33 = .ok (.iload 6, 2) := by decide +kernel
theorem dX10_bytes_35 : decode cX10_bytes 35 = .ok (.isub, 1) := by decide +kernel
theorem dX10_bytes_36 : decode cX10_bytes 36 = .ok (.istore 7, 2) := by decide +kernel
theorem dX10_bytes_38 : decode cX10_bytes 38 = .ok (.iconst 1, 1) := by decide +kernel
theorem dX10_bytes_39 : decode cX10_bytes 39 = .ok (.istore 8, 2) := by decide +kernel
theorem dX10_bytes_41 : decode cX10_bytes 41 = .ok (.iload 8, 2) := by decide +kernel
theorem dX10_bytes_43 : decode cX10_bytes 43 = .ok (.aload_n 0, 1) := by decide +kernel
theorem dX10_bytes_44 : decode cX10_bytes 44 = .ok (.getfield 13, 3) := by decide +kernel
theorem dX10_bytes_47 : decode cX10_bytes 47 = .ok (.iload_n 1, 1) := by decide +kernel
theorem dX10_bytes_48 : decode cX10_bytes 48 = .ok (.iaload, 1) := by decide +kernel
theorem dX10_bytes_49 : decode cX10_bytes 49 = .ok (.if_icmp .gt 132, 3) := by decide +kernel
theorem dX10_bytes_52 : decode cX10_bytes 52 = .ok (.lload 4, 2) := by decide +kernel
theorem dX10_bytes_54 : decode cX10_bytes 54 = .ok (.iload 7, 2) := by decide +kernel
theorem dX10_bytes_56 : decode cX10_bytes 56 = .ok (.i2l, 1) := by decide +kernel
theorem dX10_bytes_57 : decode cX10_bytes 57 = .ok (.lcmp, 1) := by decide +kernel
theorem dX10_bytes_58 : decode cX10_bytes 58 = .ok (.ifCond .lt 14, 3) := by decide +kernel
theorem dX10_bytes_61 : decode cX10_bytes 61 = .ok (.iload 8, 2) := by decide +kernel
theorem dX10_bytes_63 : decode cX10_bytes 63 = .ok (.aload_n 0, 1) := by decide +kernel
theorem dX10_bytes_64 : decode cX10_bytes 64 = .ok (.getfield 13, 3) := by decide +kernel
theorem dX10_bytes_67 : decode cX10_bytes 67 = .ok (.iload_n 1, 1) := by decide +kernel
theorem dX10_bytes_68 : decode cX10_bytes 68 = .ok (.iaload, 1) := by decide +kernel
theorem dX10_bytes_69 : decode cX10_bytes 69 = .ok (.if_icmp .ne 7, 3) := by decide +kernel
theorem dX10_bytes_72 : decode cX10_bytes 72 = .ok (.iconst 1, 1) := by decide +kernel
theorem dX10_bytes_73 : decode cX10_bytes 73 = .ok (.goto 4, 3) := by decide +kernel
theorem dX10_bytes_76 : decode cX10_bytes 76 = .ok (.iconst 0, 1) := by decide +kernel
theorem dX10_bytes_77 : decode cX10_bytes 77 = .ok (.istore 9, 2) := by decide +kernel
theorem dX10_bytes_79 : decode cX10_bytes 79 = .ok (.iload 9, 2) := by decide +kernel
theorem dX10_bytes_81 : decode cX10_bytes 81 = .ok (.ifCond .eq 14, 3) := by decide +kernel
theorem dX10_bytes_84 : decode cX10_bytes 84 = .ok (.lload 4, 2) := by decide +kernel
theorem dX10_bytes_86 : decode cX10_bytes 86 = .ok (.ldc2_w 139, 3) := by decide +kernel
theorem dX10_bytes_89 : decode cX10_bytes 89 = .ok (.lcmp, 1) := by decide +kernel
theorem dX10_bytes_90 : decode cX10_bytes 90 = .ok (.ifCond .le 5, 3) := by decide +kernel
theorem dX10_bytes_93 : decode cX10_bytes 93 = .ok (.iconst 0, 1) := by decide +kernel
theorem dX10_bytes_94 : decode cX10_bytes 94 = .ok (.ireturn, 1) := by decide +kernel
theorem dX10_bytes_95 : decode cX10_bytes 95 = .ok (.iload 9, 2) := by decide +kernel
theorem dX10_bytes_97 : decode cX10_bytes 97 = .ok (.ifCond .eq 9, 3) := by decide +kernel
theorem dX10_bytes_100 : decode cX10_bytes 100 = .ok (.lload 4, 2) := by decide +kernel
theorem dX10_bytes_102 : decode cX10_bytes 102 = .ok (.l2i, 1) := by decide +kernel
theorem dX10_bytes_103 : decode cX10_bytes 103 = .ok (.goto 17, 3) := by decide +kernel
theorem dX10_bytes_106 : decode cX10_bytes 106 = .ok (.iload 7, 2) := by decide +kernel
theorem dX10_bytes_108 : decode cX10_bytes 108 = .ok (.lload 4, 2) := by decide +kernel
theorem dX10_bytes_110 : decode cX10_bytes 110 = .ok (.iload 7, 2) := by decide +kernel
theorem dX10_bytes_112 : decode cX10_bytes 112 = .ok (.i2l, 1) := by decide +kernel
theorem dX10_bytes_113 : decode cX10_bytes 113 = .ok (.lsub, 1) := by decide +kernel
theorem dX10_bytes_114 : decode cX10_bytes 114 = .ok (.iload 6, 2) := by decide +kernel
theorem dX10_bytes_116 : decode cX10_bytes 116 = .ok (.i2l, 1) := by decide +kernel
theorem dX10_bytes_117 : decode cX10_bytes 117 = .ok (.lrem, 1) := by decide +kernel
theorem dX10_bytes_118 : decode cX10_bytes 118 = .ok (.l2i, 1) := by decide +kernel
theorem dX10_bytes_119 : decode cX10_bytes 119 = .ok (.iadd, 1) := by decide +kernel
theorem dX10_bytes_120 : decode cX10_bytes 120 = .ok (.istore 10, 2) := by decide +kernel
theorem dX10_bytes_122 : decode cX10_bytes 122 = .ok (.iload_n 3, 1) := by decide +kernel
theorem dX10_bytes_123 : decode cX10_bytes 123 = .ok (.ifCond .eq 32, 3) := by decide +kernel
theorem dX10_bytes_126 : decode cX10_bytes 126 = .ok (.aload_n 0, 1) := by decide +kernel
theorem dX10_bytes_127 : decode cX10_bytes 127 = .ok (.getfield 141, 3) := by decide +kernel
theorem dX10_bytes_130 : decode cX10_bytes 130 = .ok (.iload 8, 2) := by decide +kernel
theorem dX10_bytes_132 : decode cX10_bytes 132 = .ok (.iadd, 1) := by decide +kernel
theorem dX10_bytes_133 : decode cX10_bytes 133 = .ok (.sipush 8000, 3) := by decide +kernel
theorem dX10_bytes_136 : decode cX10_bytes 136 = .ok (.if_icmp .gt 19, 3) := by decide +kernel
theorem dX10_bytes_139 : decode cX10_bytes 139 = .ok (.aload_n 0, 1) := by decide +kernel
theorem dX10_bytes_140 : decode cX10_bytes 140 = .ok (.getfield 63, 3) := by decide +kernel
theorem dX10_bytes_143 : decode cX10_bytes 143 = .ok (.aload_n 0, 1) := by decide +kernel
theorem dX10_bytes_144 : decode cX10_bytes 144 = .ok (.getfield 141, 3) := by decide +kernel
theorem dX10_bytes_147 : decode cX10_bytes 147 = .ok (.iload 8, 2) := by decide +kernel
theorem dX10_bytes_149 : decode cX10_bytes 149 = .ok (.iadd, 1) := by decide +kernel
theorem dX10_bytes_150 : decode cX10_bytes 150 = .ok (.iconst 1, 1) := by decide +kernel
theorem dX10_bytes_151 : decode cX10_bytes 151 = .ok (.isub, 1) := by decide +kernel
theorem dX10_bytes_152 : decode cX10_bytes 152 = .ok (.iload 10, 2) := by decide +kernel
theorem dX10_bytes_154 : decode cX10_bytes 154 = .ok (.iastore, 1) := by decide +kernel
theorem dX10_bytes_155 : decode cX10_bytes 155 = .ok (.iload 9, 2) := by decide +kernel
theorem dX10_bytes_157 : decode cX10_bytes 157 = .ok (.ifCond .eq 6, 3) := by decide +kernel
theorem dX10_bytes_160 : decode cX10_bytes 160 = .ok (.iload 8, 2) := by decide +kernel
theorem dX10_bytes_162 : decode cX10_bytes 162 = .ok (.ireturn, 1) := by decide +kernel
theorem dX10_bytes_163 : decode cX10_bytes 163 = .ok (.lload 4, 2) := by decide +kernel
theorem dX10_bytes_165 : decode cX10_bytes 165 = .ok (.iload 10, 2) := by decide +kernel
theorem dX10_bytes_167 : decode cX10_bytes 167 = .ok (.i2l, 1) := by decide +kernel
theorem dX10_bytes_168 : decode cX10_bytes 168 = .ok (.lsub, 1) := by decide +kernel
theorem dX10_bytes_169 : decode cX10_bytes 169 = .ok (.iload 6, 2) := by decide +kernel
theorem dX10_bytes_171 : decode cX10_bytes 171 = .ok (.i2l, 1) := by decide +kernel
theorem dX10_bytes_172 : decode cX10_bytes 172 = .ok (.ldiv, 1) := by decide +kernel
theorem dX10_bytes_173 : decode cX10_bytes 173 = .ok (.lstore 4, 2) := by decide +kernel
theorem dX10_bytes_175 : decode cX10_bytes 175 = .ok (.iinc 8 1, 3) := by decide +kernel
theorem dX10_bytes_178 : decode cX10_bytes 178 = .ok (.goto (-137), 3) := by decide +kernel
theorem dX10_bytes_181 : decode cX10_bytes 181 = .ok (.iconst 0, 1) := by decide +kernel
theorem dX10_bytes_182 : decode cX10_bytes 182 = .ok (.ireturn, 1) := by decide +kernel
theorem dX10_told_0 : decode cX10_told 0 = .ok (.aload_n 0, 1) := by decide +kernel
theorem dX10_told_1 : decode cX10_told 1 = .ok (.getfield 22, 3) := by decide +kernel
theorem dX10_told_4 : decode cX10_told 4 = .ok (.iload_n 1, 1) := by decide +kernel
theorem dX10_told_5 : decode cX10_told 5 = .ok (.iaload, 1) := by decide +kernel
theorem dX10_told_6 : decode cX10_told 6 = .ok (.iconst 1, 1) := by decide +kernel
theorem dX10_told_7 : decode cX10_told 7 = .ok (.if_icmp .ne 9, 3) := by decide +kernel
theorem dX10_told_10 : decode cX10_told 10 = .ok (.iload_n 2, 1) := by decide +kernel
theorem dX10_told_11 : decode cX10_told 11 = .ok (.iload_n 3, 1) := by decide +kernel
theorem dX10_told_12 : decode cX10_told 12 = .ok (.isub, 1) := by decide +kernel
theorem dX10_told_13 : decode cX10_told 13 = .ok (.goto 4, 3) := by decide +kernel
theorem dX10_told_16 : decode cX10_told 16 = .ok (.iload_n 2, 1) := by decide +kernel
theorem dX10_told_17 : decode cX10_told 17 = .ok (.ireturn, 1) := by decide +kernel
theorem dX10_task_0 : decode cX10_task 0 = .ok (.aload_n 0, 1) := by decide +kernel
theorem dX10_task_1 : decode cX10_task 1 = .ok (.getfield 51, 3) := by decide +kernel
theorem dX10_task_4 : decode cX10_task 4 = .ok (.aload_n 0, 1) := by decide +kernel
theorem dX10_task_5 : decode cX10_task 5 = .ok (.getfield 144, 3) := by decide +kernel
theorem dX10_task_8 : decode cX10_task 8 = .ok (.iload_n 1, 1) := by decide +kernel
theorem dX10_task_9 : decode cX10_task 9 = .ok (.iastore, 1) := by decide +kernel
theorem dX10_task_10 : decode cX10_task 10 = .ok (.aload_n 0, 1) := by decide +kernel
theorem dX10_task_11 : decode cX10_task 11 = .ok (.getfield 54, 3) := by decide +kernel
theorem dX10_task_14 : decode cX10_task 14 = .ok (.aload_n 0, 1) := by decide +kernel
theorem dX10_task_15 : decode cX10_task 15 = .ok (.getfield 144, 3) := by decide +kernel
theorem dX10_task_18 : decode cX10_task 18 = .ok (.iload_n 2, 1) := by decide +kernel
theorem dX10_task_19 : decode cX10_task 19 = .ok (.iastore, 1) := by decide +kernel
theorem dX10_task_20 : decode cX10_task 20 = .ok (.aload_n 0, 1) := by decide +kernel
theorem dX10_task_21 : decode cX10_task 21 = .ok (.getfield 57, 3) := by decide +kernel
theorem dX10_task_24 : decode cX10_task 24 = .ok (.aload_n 0, 1) := by decide +kernel
theorem dX10_task_25 : decode cX10_task 25 = .ok (.getfield 144, 3) := by decide +kernel
theorem dX10_task_28 : decode cX10_task 28 = .ok (.iload_n 3, 1) := by decide +kernel
theorem dX10_task_29 : decode cX10_task 29 = .ok (.iastore, 1) := by decide +kernel
theorem dX10_task_30 : decode cX10_task 30 = .ok (.aload_n 0, 1) := by decide +kernel
theorem dX10_task_31 : decode cX10_task 31 = .ok (.dup, 1) := by decide +kernel
theorem dX10_task_32 : decode cX10_task 32 = .ok (.getfield 144, 3) := by decide +kernel
theorem dX10_task_35 : decode cX10_task 35 = .ok (.iconst 1, 1) := by decide +kernel
theorem dX10_task_36 : decode cX10_task 36 = .ok (.iadd, 1) := by decide +kernel
theorem dX10_task_37 : decode cX10_task 37 = .ok (.putfield 144, 3) := by decide +kernel
theorem dX10_task_40 : decode cX10_task 40 = .ok (.return_, 1) := by decide +kernel
theorem dX10_writes_0 : decode cX10_writes 0 = .ok (.iconst 0, 1) := by decide +kernel
theorem dX10_writes_1 : decode cX10_writes 1 = .ok (.istore_n 2, 1) := by decide +kernel
theorem dX10_writes_2 : decode cX10_writes 2 = .ok (.iload_n 2, 1) := by decide +kernel
theorem dX10_writes_3 : decode cX10_writes 3 = .ok (.aload_n 0, 1) := by decide +kernel
theorem dX10_writes_4 : decode cX10_writes 4 = .ok (.getfield 120, 3) := by decide +kernel
theorem dX10_writes_7 : decode cX10_writes 7 = .ok (.if_icmp .ge 21, 3) := by decide +kernel
theorem dX10_writes_10 : decode cX10_writes 10 = .ok (.aload_n 0, 1) := by decide +kernel
theorem dX10_writes_11 : decode cX10_writes 11 = .ok (.getfield 48, 3) := by decide +kernel
theorem dX10_writes_14 : decode cX10_writes 14 = .ok (.iload_n 2, 1) := by decide +kernel
theorem dX10_writes_15 : decode cX10_writes 15 = .ok (.aload_n 0, 1) := by decide +kernel
theorem dX10_writes_16 : decode cX10_writes 16 = .ok (.getfield 28, 3) := by decide +kernel
theorem dX10_writes_19 : decode cX10_writes 19 = .ok (.iload_n 2, 1) := by decide +kernel
theorem dX10_writes_20 : decode cX10_writes 20 = .ok (.iaload, 1) := by decide +kernel
theorem dX10_writes_21 : decode cX10_writes 21 = .ok (.iastore, 1) := by decide +kernel
theorem dX10_writes_22 : decode cX10_writes 22 = .ok (.iinc 2 1, 3) := by decide +kernel
theorem dX10_writes_25 : decode cX10_writes 25 = .ok (.goto (-23), 3) := by decide +kernel
theorem dX10_writes_28 : decode cX10_writes 28 = .ok (.aload_n 0, 1) := by decide +kernel
theorem dX10_writes_29 : decode cX10_writes 29 = .ok (.aload_n 0, 1) := by decide +kernel
theorem dX10_writes_30 : decode cX10_writes 30 = .ok (.getfield 120, 3) := by decide +kernel
theorem dX10_writes_33 : decode cX10_writes 33 = .ok (.putfield 147, 3) := by decide +kernel
theorem dX10_writes_36 : decode cX10_writes 36 = .ok (.aload_n 0, 1) := by decide +kernel
theorem dX10_writes_37 : decode cX10_writes 37 = .ok (.iconst 0, 1) := by decide +kernel
theorem dX10_writes_38 : decode cX10_writes 38 = .ok (.putfield 141, 3) := by decide +kernel
theorem dX10_writes_41 : decode cX10_writes 41 = .ok (.aload_n 0, 1) := by decide +kernel
theorem dX10_writes_42 : decode cX10_writes 42 = .ok (.iconst 0, 1) := by decide +kernel
theorem dX10_writes_43 : decode cX10_writes 43 = .ok (.putfield 144, 3) := by decide +kernel
theorem dX10_writes_46 : decode cX10_writes 46 = .ok (.aload_n 0, 1) := by decide +kernel
theorem dX10_writes_47 : decode cX10_writes 47 = .ok (.iload_n 1, 1) := by decide +kernel
theorem dX10_writes_48 : decode cX10_writes 48 = .ok (.iconst 0, 1) := by decide +kernel
theorem dX10_writes_49 : decode cX10_writes 49 = .ok (.aload_n 0, 1) := by decide +kernel
theorem dX10_writes_50 : decode cX10_writes 50 = .ok (.getfield 120, 3) := by decide +kernel
theorem dX10_writes_53 : decode cX10_writes 53 = .ok (.invokevirtual 150, 3) := by decide +kernel
theorem dX10_writes_56 : decode cX10_writes 56 = .ok (.aload_n 0, 1) := by decide +kernel
theorem dX10_writes_57 : decode cX10_writes 57 = .ok (.getfield 144, 3) := by decide +kernel
theorem dX10_writes_60 : decode cX10_writes 60 = .ok (.ifCond .le 209, 3) := by decide +kernel
theorem dX10_writes_63 : decode cX10_writes 63 = .ok (.aload_n 0, 1) := by decide +kernel
theorem dX10_writes_64 : decode cX10_writes 64 = .ok (.dup, 1) := by decide +kernel
theorem dX10_writes_65 : decode cX10_writes 65 = .ok (.getfield 144, 3) := by decide +kernel
theorem dX10_writes_68 : decode cX10_writes 68 = .ok (.iconst 1, 1) := by decide +kernel
theorem dX10_writes_69 : decode cX10_writes 69 = .ok (.isub, 1) := by decide +kernel
theorem dX10_writes_70 : decode cX10_writes 70 = .ok (.putfield 144, 3) := by decide +kernel
theorem dX10_writes_73 : decode cX10_writes 73 = .ok (.aload_n 0, 1) := by decide +kernel
theorem dX10_writes_74 : decode cX10_writes 74 = .ok (.getfield 51, 3) := by decide +kernel
theorem dX10_writes_77 : decode cX10_writes 77 = .ok (.aload_n 0, 1) := by decide +kernel
theorem dX10_writes_78 : decode cX10_writes 78 = .ok (.getfield 144, 3) := by decide +kernel
theorem dX10_writes_81 : decode cX10_writes 81 = .ok (.iaload, 1) := by decide +kernel
theorem dX10_writes_82 : decode cX10_writes 82 = .ok (.istore_n 2, 1) := by decide +kernel
theorem dX10_writes_83 : decode cX10_writes 83 = .ok (.aload_n 0, 1) := by decide +kernel
theorem dX10_writes_84 : decode cX10_writes 84 = .ok (.getfield 54, 3) := by decide +kernel
theorem dX10_writes_87 : decode cX10_writes 87 = .ok (.aload_n 0, 1) := by decide +kernel
theorem dX10_writes_88 : decode cX10_writes 88 = .ok (.getfield 144, 3) := by decide +kernel
theorem dX10_writes_91 : decode cX10_writes 91 = .ok (.iaload, 1) := by decide +kernel
theorem dX10_writes_92 : decode cX10_writes 92 = .ok (.istore_n 3, 1) := by decide +kernel
theorem dX10_writes_93 : decode cX10_writes 93 = .ok (.aload_n 0, 1) := by decide +kernel
theorem dX10_writes_94 : decode cX10_writes 94 = .ok (.getfield 57, 3) := by decide +kernel
theorem dX10_writes_97 : decode cX10_writes 97 = .ok (.aload_n 0, 1) := by decide +kernel
theorem dX10_writes_98 : decode cX10_writes 98 = .ok (.getfield 144, 3) := by decide +kernel
theorem dX10_writes_101 : decode cX10_writes 101 = .ok (.iaload, 1) := by decide +kernel
theorem dX10_writes_102 : decode cX10_writes 102 = .ok (.istore 4, 2) := by decide +kernel
theorem dX10_writes_104 : decode cX10_writes 104 = .ok (.aload_n 0, 1) := by decide +kernel
theorem dX10_writes_105 : decode cX10_writes 105 = .ok (.getfield 7, 3) := by decide +kernel
theorem dX10_writes_108 : decode cX10_writes 108 = .ok (.iload_n 2, 1) := by decide +kernel
theorem dX10_writes_109 : decode cX10_writes 109 = .ok (.iaload, 1) := by decide +kernel
theorem dX10_writes_110 : decode cX10_writes 110 = .ok (.iconst 1, 1) := by decide +kernel
theorem dX10_writes_111 : decode cX10_writes 111 = .ok (.if_icmp .ne 62, 3) := by decide +kernel
theorem dX10_writes_114 : decode cX10_writes 114 = .ok (.aload_n 0, 1) := by decide +kernel
theorem dX10_writes_115 : decode cX10_writes 115 = .ok (.getfield 13, 3) := by decide +kernel
theorem dX10_writes_118 : decode cX10_writes 118 = .ok (.iload_n 2, 1) := by decide +kernel
theorem dX10_writes_119 : decode cX10_writes 119 = .ok (.iaload, 1) := by decide +kernel
theorem dX10_writes_120 : decode cX10_writes 120 = .ok (.iload 4, 2) := by decide +kernel
theorem dX10_writes_122 : decode cX10_writes 122 = .ok (.if_icmp .ge 12, 3) := by decide +kernel
theorem dX10_writes_125 : decode cX10_writes 125 = .ok (.aload_n 0, 1) := by decide +kernel
theorem dX10_writes_126 : decode cX10_writes 126 = .ok (.getfield 13, 3) := by decide +kernel
theorem dX10_writes_129 : decode cX10_writes 129 = .ok (.iload_n 2, 1) := by decide +kernel
theorem dX10_writes_130 : decode cX10_writes 130 = .ok (.iaload, 1) := by decide +kernel
theorem dX10_writes_131 : decode cX10_writes 131 = .ok (.goto 5, 3) := by decide +kernel
theorem dX10_writes_134 : decode cX10_writes 134 = .ok (.iload 4, 2) := by decide +kernel
theorem dX10_writes_136 : decode cX10_writes 136 = .ok (.istore 5, 2) := by decide +kernel
theorem dX10_writes_138 : decode cX10_writes 138 = .ok (.aload_n 0, 1) := by decide +kernel
theorem dX10_writes_139 : decode cX10_writes 139 = .ok (.aload_n 0, 1) := by decide +kernel
theorem dX10_writes_140 : decode cX10_writes 140 = .ok (.getfield 19, 3) := by decide +kernel
theorem dX10_writes_143 : decode cX10_writes 143 = .ok (.iload_n 2, 1) := by decide +kernel
theorem dX10_writes_144 : decode cX10_writes 144 = .ok (.iaload, 1) := by decide +kernel
theorem dX10_writes_145 : decode cX10_writes 145 = .ok (.iload_n 3, 1) := by decide +kernel
theorem dX10_writes_146 : decode cX10_writes 146 = .ok (.iload 5, 2) := by decide +kernel
theorem dX10_writes_148 : decode cX10_writes 148 = .ok (.iadd, 1) := by decide +kernel
theorem dX10_writes_149 : decode cX10_writes 149 = .ok (.iload 4, 2) := by decide +kernel
theorem dX10_writes_151 : decode cX10_writes 151 = .ok (.iload 5, 2) := by decide +kernel
theorem dX10_writes_153 : decode cX10_writes 153 = .ok (.isub, 1) := by decide +kernel
theorem dX10_writes_154 : decode cX10_writes 154 = .ok (.invokevirtual 150, 3) := by decide +kernel
theorem dX10_writes_157 : decode cX10_writes 157 = .ok (.aload_n 0, 1) := by decide +kernel
theorem dX10_writes_158 : decode cX10_writes 158 = .ok (.aload_n 0, 1) := by decide +kernel
theorem dX10_writes_159 : decode cX10_writes 159 = .ok (.getfield 16, 3) := by decide +kernel
theorem dX10_writes_162 : decode cX10_writes 162 = .ok (.iload_n 2, 1) := by decide +kernel
theorem dX10_writes_163 : decode cX10_writes 163 = .ok (.iaload, 1) := by decide +kernel
theorem dX10_writes_164 : decode cX10_writes 164 = .ok (.iload_n 3, 1) := by decide +kernel
theorem dX10_writes_165 : decode cX10_writes 165 = .ok (.iload 5, 2) := by decide +kernel
theorem dX10_writes_167 : decode cX10_writes 167 = .ok (.invokevirtual 150, 3) := by decide +kernel
theorem dX10_writes_170 : decode cX10_writes 170 = .ok (.goto 96, 3) := by decide +kernel
theorem dX10_writes_173 : decode cX10_writes 173 = .ok (.aload_n 0, 1) := by decide +kernel
theorem dX10_writes_174 : decode cX10_writes 174 = .ok (.getfield 7, 3) := by decide +kernel
theorem dX10_writes_177 : decode cX10_writes 177 = .ok (.iload_n 2, 1) := by decide +kernel
theorem dX10_writes_178 : decode cX10_writes 178 = .ok (.iaload, 1) := by decide +kernel
theorem dX10_writes_179 : decode cX10_writes 179 = .ok (.iconst 2, 1) := by decide +kernel
theorem dX10_writes_180 : decode cX10_writes 180 = .ok (.if_icmp .ne 14, 3) := by decide +kernel
theorem dX10_writes_183 : decode cX10_writes 183 = .ok (.aload_n 0, 1) := by decide +kernel
theorem dX10_writes_184 : decode cX10_writes 184 = .ok (.iload_n 2, 1) := by decide +kernel
theorem dX10_writes_185 : decode cX10_writes 185 = .ok (.iload_n 3, 1) := by decide +kernel
theorem dX10_writes_186 : decode cX10_writes 186 = .ok (.iload 4, 2) := by decide +kernel
theorem dX10_writes_188 : decode cX10_writes 188 = .ok (.invokevirtual 154, 3) := by decide +kernel
theorem dX10_writes_191 : decode cX10_writes 191 = .ok (.goto 75, 3) := by decide +kernel
theorem dX10_writes_194 : decode cX10_writes 194 = .ok (.iconst 0, 1) := by decide +kernel
theorem dX10_writes_195 : decode cX10_writes 195 = .ok (.istore 5, 2) := by decide +kernel
theorem dX10_writes_197 : decode cX10_writes 197 = .ok (.iconst 0, 1) := by decide +kernel
theorem dX10_writes_198 : decode cX10_writes 198 = .ok (.istore 6, 2) := by decide +kernel
theorem dX10_writes_200 : decode cX10_writes 200 = .ok (.iload 6, 2) := by decide +kernel
theorem dX10_writes_202 : decode cX10_writes 202 = .ok (.iload 4, 2) := by decide +kernel
theorem dX10_writes_204 : decode cX10_writes 204 = .ok (.if_icmp .ge 62, 3) := by decide +kernel
theorem dX10_writes_207 : decode cX10_writes 207 = .ok (.aload_n 0, 1) := by decide +kernel
theorem dX10_writes_208 : decode cX10_writes 208 = .ok (.iload_n 2, 1) := by decide +kernel
theorem dX10_writes_209 : decode cX10_writes 209 = .ok (.aload_n 0, 1) := by decide +kernel
theorem dX10_writes_210 : decode cX10_writes 210 = .ok (.iload_n 2, 1) := by decide +kernel
theorem dX10_writes_211 : decode cX10_writes 211 = .ok (.aload_n 0, 1) := by decide +kernel
theorem dX10_writes_212 : decode cX10_writes 212 = .ok (.getfield 48, 3) := by decide +kernel
theorem dX10_writes_215 : decode cX10_writes 215 = .ok (.iload_n 3, 1) := by decide +kernel
theorem dX10_writes_216 : decode cX10_writes 216 = .ok (.iload 6, 2) := by decide +kernel
theorem dX10_writes_218 : decode cX10_writes 218 = .ok (.iadd, 1) := by decide +kernel
theorem dX10_writes_219 : decode cX10_writes 219 = .ok (.iaload, 1) := by decide +kernel
theorem dX10_writes_220 : decode cX10_writes 220 = .ok (.iload 5, 2) := by decide +kernel
theorem dX10_writes_222 : decode cX10_writes 222 = .ok (.invokevirtual 157, 3) := by decide +kernel
theorem dX10_writes_225 : decode cX10_writes 225 = .ok (.iconst 1, 1) := by decide +kernel
theorem dX10_writes_226 : decode cX10_writes 226 = .ok (.invokevirtual 161, 3) := by decide +kernel
theorem dX10_writes_229 : decode cX10_writes 229 = .ok (.istore 7, 2) := by decide +kernel
theorem dX10_writes_231 : decode cX10_writes 231 = .ok (.iload 7, 2) := by decide +kernel
theorem dX10_writes_233 : decode cX10_writes 233 = .ok (.ifCond .ne 5, 3) := by decide +kernel
theorem dX10_writes_236 : decode cX10_writes 236 = .ok (.iconst 0, 1) := by decide +kernel
theorem dX10_writes_237 : decode cX10_writes 237 = .ok (.ireturn, 1) := by decide +kernel
theorem dX10_writes_238 : decode cX10_writes 238 = .ok (.aload_n 0, 1) := by decide +kernel
theorem dX10_writes_239 : decode cX10_writes 239 = .ok (.getfield 48, 3) := by decide +kernel
theorem dX10_writes_242 : decode cX10_writes 242 = .ok (.iload_n 3, 1) := by decide +kernel
theorem dX10_writes_243 : decode cX10_writes 243 = .ok (.iload 6, 2) := by decide +kernel
theorem dX10_writes_245 : decode cX10_writes 245 = .ok (.iadd, 1) := by decide +kernel
theorem dX10_writes_246 : decode cX10_writes 246 = .ok (.iaload, 1) := by decide +kernel
theorem dX10_writes_247 : decode cX10_writes 247 = .ok (.istore 5, 2) := by decide +kernel
theorem dX10_writes_249 : decode cX10_writes 249 = .ok (.aload_n 0, 1) := by decide +kernel
theorem dX10_writes_250 : decode cX10_writes 250 = .ok (.dup, 1) := by decide +kernel
theorem dX10_writes_251 : decode cX10_writes 251 = .ok (.getfield 141, 3) := by decide +kernel
theorem dX10_writes_254 : decode cX10_writes 254 = .ok (.iload 7, 2) := by decide +kernel
theorem dX10_writes_256 : decode cX10_writes 256 = .ok (.iadd, 1) := by decide +kernel
theorem dX10_writes_257 : decode cX10_writes 257 = .ok (.putfield 141, 3) := by decide +kernel
theorem dX10_writes_260 : decode cX10_writes 260 = .ok (.iinc 6 1, 3) := by decide +kernel
theorem dX10_writes_263 : decode cX10_writes 263 = .ok (.goto (-63), 3) := by decide +kernel
theorem dX10_writes_266 : decode cX10_writes 266 = .ok (.goto (-210), 3) := by decide +kernel
theorem dX10_writes_269 : decode cX10_writes 269 = .ok (.iconst 1, 1) := by decide +kernel
theorem dX10_writes_270 : decode cX10_writes 270 = .ok (.ireturn, 1) := by decide +kernel
theorem dX10_favours_0 : decode cX10_favours 0 = .ok (.aload_n 0, 1) := by decide +kernel
theorem dX10_favours_1 : decode cX10_favours 1 = .ok (.getfield 147, 3) := by decide +kernel
theorem dX10_favours_4 : decode cX10_favours 4 = .ok (.istore 4, 2) := by decide +kernel
theorem dX10_favours_6 : decode cX10_favours 6 = .ok (.iconst 0, 1) := by decide +kernel
theorem dX10_favours_7 : decode cX10_favours 7 = .ok (.istore 5, 2) := by decide +kernel
theorem dX10_favours_9 : decode cX10_favours 9 = .ok (.aload_n 0, 1) := by decide +kernel
theorem dX10_favours_10 : decode cX10_favours 10 = .ok (.iload 4, 2) := by decide +kernel
theorem dX10_favours_12 : decode cX10_favours 12 = .ok (.iconst 1, 1) := by decide +kernel
theorem dX10_favours_13 : decode cX10_favours 13 = .ok (.iadd, 1) := by decide +kernel
theorem dX10_favours_14 : decode cX10_favours 14 = .ok (.putfield 147, 3) := by decide +kernel
theorem dX10_favours_17 : decode cX10_favours 17 = .ok (.iconst 0, 1) := by decide +kernel
theorem dX10_favours_18 : decode cX10_favours 18 = .ok (.istore 6, 2) := by decide +kernel
theorem dX10_favours_20 : decode cX10_favours 20 = .ok (.iload 6, 2) := by decide +kernel
theorem dX10_favours_22 : decode cX10_favours 22 = .ok (.iload_n 3, 1) := by decide +kernel
theorem dX10_favours_23 : decode cX10_favours 23 = .ok (.if_icmp .ge 83, 3) := by decide +kernel
theorem dX10_favours_26 : decode cX10_favours 26 = .ok (.aload_n 0, 1) := by decide +kernel
theorem dX10_favours_27 : decode cX10_favours 27 = .ok (.getfield 60, 3) := by decide +kernel
theorem dX10_favours_30 : decode cX10_favours 30 = .ok (.iload 6, 2) := by decide +kernel
theorem dX10_favours_32 : decode cX10_favours 32 = .ok (.iconst 1, 1) := by decide +kernel
theorem dX10_favours_33 : decode cX10_favours 33 = .ok (.iastore, 1) := by decide +kernel
theorem dX10_favours_34 : decode cX10_favours 34 = .ok (.iconst 0, 1) := by decide +kernel
theorem dX10_favours_35 : decode cX10_favours 35 = .ok (.istore 7, 2) := by decide +kernel
theorem dX10_favours_37 : decode cX10_favours 37 = .ok (.iload 7, 2) := by decide +kernel
theorem dX10_favours_39 : decode cX10_favours 39 = .ok (.iload 6, 2) := by decide +kernel
theorem dX10_favours_41 : decode cX10_favours 41 = .ok (.if_icmp .ge 59, 3) := by decide +kernel
theorem dX10_favours_44 : decode cX10_favours 44 = .ok (.aload_n 0, 1) := by decide +kernel
theorem dX10_favours_45 : decode cX10_favours 45 = .ok (.getfield 60, 3) := by decide +kernel
theorem dX10_favours_48 : decode cX10_favours 48 = .ok (.iload 6, 2) := by decide +kernel
theorem dX10_favours_50 : decode cX10_favours 50 = .ok (.iaload, 1) := by decide +kernel
theorem dX10_favours_51 : decode cX10_favours 51 = .ok (.ifCond .le 49, 3) := by decide +kernel
theorem dX10_favours_54 : decode cX10_favours 54 = .ok (.aload_n 0, 1) := by decide +kernel
theorem dX10_favours_55 : decode cX10_favours 55 = .ok (.getfield 48, 3) := by decide +kernel
theorem dX10_favours_58 : decode cX10_favours 58 = .ok (.iload_n 2, 1) := by decide +kernel
theorem dX10_favours_59 : decode cX10_favours 59 = .ok (.iload 7, 2) := by decide +kernel
theorem dX10_favours_61 : decode cX10_favours 61 = .ok (.iadd, 1) := by decide +kernel
theorem dX10_favours_62 : decode cX10_favours 62 = .ok (.iaload, 1) := by decide +kernel
theorem dX10_favours_63 : decode cX10_favours 63 = .ok (.aload_n 0, 1) := by decide +kernel
theorem dX10_favours_64 : decode cX10_favours 64 = .ok (.getfield 48, 3) := by decide +kernel
theorem dX10_favours_67 : decode cX10_favours 67 = .ok (.iload_n 2, 1) := by decide +kernel
theorem dX10_favours_68 : decode cX10_favours 68 = .ok (.iload 6, 2) := by decide +kernel
theorem dX10_favours_70 : decode cX10_favours 70 = .ok (.iadd, 1) := by decide +kernel
theorem dX10_favours_71 : decode cX10_favours 71 = .ok (.iaload, 1) := by decide +kernel
theorem dX10_favours_72 : decode cX10_favours 72 = .ok (.if_icmp .ne 22, 3) := by decide +kernel
theorem dX10_favours_75 : decode cX10_favours 75 = .ok (.aload_n 0, 1) := by decide +kernel
theorem dX10_favours_76 : decode cX10_favours 76 = .ok (.getfield 60, 3) := by decide +kernel
theorem dX10_favours_79 : decode cX10_favours 79 = .ok (.iload 7, 2) := by decide +kernel
theorem dX10_favours_81 : decode cX10_favours 81 = .ok (.dup2, 1) := by decide +kernel
theorem dX10_favours_82 : decode cX10_favours 82 = .ok (.iaload, 1) := by decide +kernel
theorem dX10_favours_83 : decode cX10_favours 83 = .ok (.iconst 1, 1) := by decide +kernel
theorem dX10_favours_84 : decode cX10_favours 84 = .ok (.iadd, 1) := by decide +kernel
theorem dX10_favours_85 : decode cX10_favours 85 = .ok (.iastore, 1) := by decide +kernel
theorem dX10_favours_86 : decode cX10_favours 86 = .ok (.aload_n 0, 1) := by decide +kernel
theorem dX10_favours_87 : decode cX10_favours 87 = .ok (.getfield 60, 3) := by decide +kernel
theorem dX10_favours_90 : decode cX10_favours 90 = .ok (.iload 6, 2) := by decide +kernel
theorem dX10_favours_92 : decode cX10_favours 92 = .ok (.iconst 0, 1) := by decide +kernel
theorem dX10_favours_93 : decode cX10_favours 93 = .ok (.iastore, 1) := by decide +kernel
theorem dX10_favours_94 : decode cX10_favours 94 = .ok (.iinc 7 1, 3) := by decide +kernel
theorem dX10_favours_97 : decode cX10_favours 97 = .ok (.goto (-60), 3) := by decide +kernel
theorem dX10_favours_100 : decode cX10_favours 100 = .ok (.iinc 6 1, 3) := by decide +kernel
theorem dX10_favours_103 : decode cX10_favours 103 = .ok (.goto (-83), 3) := by decide +kernel
theorem dX10_favours_106 : decode cX10_favours 106 = .ok (.iconst 1, 1) := by decide +kernel
theorem dX10_favours_107 : decode cX10_favours 107 = .ok (.istore 6, 2) := by decide +kernel
theorem dX10_favours_109 : decode cX10_favours 109 = .ok (.iload 6, 2) := by decide +kernel
theorem dX10_favours_111 : decode cX10_favours 111 = .ok (.ifCond .eq 127, 3) := by decide +kernel
theorem dX10_favours_114 : decode cX10_favours 114 = .ok (.iload 5, 2) := by decide +kernel
theorem dX10_favours_116 : decode cX10_favours 116 = .ok (.aload_n 0, 1) := by decide +kernel
theorem dX10_favours_117 : decode cX10_favours 117 = .ok (.getfield 13, 3) := by decide +kernel
theorem dX10_favours_120 : decode cX10_favours 120 = .ok (.iload_n 1, 1) := by decide +kernel
theorem dX10_favours_121 : decode cX10_favours 121 = .ok (.iaload, 1) := by decide +kernel
theorem dX10_favours_122 : decode cX10_favours 122 = .ok (.if_icmp .ge 116, 3) := by decide +kernel
theorem dX10_favours_125 : decode cX10_favours 125 = .ok (.iconst 0, 1) := by decide +kernel
theorem dX10_favours_126 : decode cX10_favours 126 = .ok (.istore 7, 2) := by decide +kernel
theorem dX10_favours_128 : decode cX10_favours 128 = .ok (.iconst 1, 1) := by decide +kernel
theorem dX10_favours_129 : decode cX10_favours 129 = .ok (.istore 8, 2) := by decide +kernel
theorem dX10_favours_131 : decode cX10_favours 131 = .ok (.iload 8, 2) := by decide +kernel
theorem dX10_favours_133 : decode cX10_favours 133 = .ok (.iload_n 3, 1) := by decide +kernel
theorem dX10_favours_134 : decode cX10_favours 134 = .ok (.if_icmp .ge 35, 3) := by decide +kernel
theorem dX10_favours_137 : decode cX10_favours 137 = .ok (.aload_n 0, 1) := by decide +kernel
theorem dX10_favours_138 : decode cX10_favours 138 = .ok (.getfield 60, 3) := by decide +kernel
theorem dX10_favours_141 : decode cX10_favours 141 = .ok (.iload 8, 2) := by decide +kernel
theorem dX10_favours_143 : decode cX10_favours 143 = .ok (.iaload, 1) := by decide +kernel
theorem dX10_favours_144 : decode cX10_favours 144 = .ok (.aload_n 0, 1) := by decide +kernel
theorem dX10_favours_145 : decode cX10_favours 145 = .ok (.getfield 60, 3) := by decide +kernel
theorem dX10_favours_148 : decode cX10_favours 148 = .ok (.iload 7, 2) := by decide +kernel
theorem dX10_favours_150 : decode cX10_favours 150 = .ok (.iaload, 1) := by decide +kernel
theorem dX10_favours_151 : decode cX10_favours 151 = .ok (.if_icmp .le 8, 3) := by decide +kernel
theorem dX10_favours_154 : decode cX10_favours 154 = .ok (.iload 8, 2) := by decide +kernel
theorem dX10_favours_156 : decode cX10_favours 156 = .ok (.goto 5, 3) := by decide +kernel
theorem dX10_favours_159 : decode cX10_favours 159 = .ok (.iload 7, 2) := by decide +kernel
theorem dX10_favours_161 : decode cX10_favours 161 = .ok (.istore 7, 2) := by decide +kernel
theorem dX10_favours_163 : decode cX10_favours 163 = .ok (.iinc 8 1, 3) := by decide +kernel
theorem dX10_favours_166 : decode cX10_favours 166 = .ok (.goto (-35), 3) := by decide +kernel
theorem dX10_favours_169 : decode cX10_favours 169 = .ok (.iload_n 3, 1) := by decide +kernel
theorem dX10_favours_170 : decode cX10_favours 170 = .ok (.ifCond .le 18, 3) := by decide +kernel
theorem dX10_favours_173 : decode cX10_favours 173 = .ok (.aload_n 0, 1) := by decide +kernel
theorem dX10_favours_174 : decode cX10_favours 174 = .ok (.getfield 60, 3) := by decide +kernel
theorem dX10_favours_177 : decode cX10_favours 177 = .ok (.iload 7, 2) := by decide +kernel
theorem dX10_favours_179 : decode cX10_favours 179 = .ok (.iaload, 1) := by decide +kernel
theorem dX10_favours_180 : decode cX10_favours 180 = .ok (.iconst 1, 1) := by decide +kernel
theorem dX10_favours_181 : decode cX10_favours 181 = .ok (.if_icmp .le 7, 3) := by decide +kernel
theorem dX10_favours_184 : decode cX10_favours 184 = .ok (.iconst 1, 1) := by decide +kernel
theorem dX10_favours_185 : decode cX10_favours 185 = .ok (.goto 4, 3) := by decide +kernel
theorem dX10_favours_188 : decode cX10_favours 188 = .ok (.iconst 0, 1) := by decide +kernel
theorem dX10_favours_189 : decode cX10_favours 189 = .ok (.istore 6, 2) := by decide +kernel
theorem dX10_favours_191 : decode cX10_favours 191 = .ok (.iload 6, 2) := by decide +kernel
theorem dX10_favours_193 : decode cX10_favours 193 = .ok (.ifCond .eq 42, 3) := by decide +kernel
theorem dX10_favours_196 : decode cX10_favours 196 = .ok (.aload_n 0, 1) := by decide +kernel
theorem dX10_favours_197 : decode cX10_favours 197 = .ok (.getfield 48, 3) := by decide +kernel
theorem dX10_favours_200 : decode cX10_favours 200 = .ok (.aload_n 0, 1) := by decide +kernel
theorem dX10_favours_201 : decode cX10_favours 201 = .ok (.getfield 147, 3) := by decide +kernel
theorem dX10_favours_204 : decode cX10_favours 204 = .ok (.aload_n 0, 1) := by decide +kernel
theorem dX10_favours_205 : decode cX10_favours 205 = .ok (.getfield 48, 3) := by decide +kernel
theorem dX10_favours_208 : decode cX10_favours 208 = .ok (.iload_n 2, 1) := by decide +kernel
theorem dX10_favours_209 : decode cX10_favours 209 = .ok (.iload 7, 2) := by decide +kernel
theorem dX10_favours_211 : decode cX10_favours 211 = .ok (.iadd, 1) := by decide +kernel
theorem dX10_favours_212 : decode cX10_favours 212 = .ok (.iaload, 1) := by decide +kernel
theorem dX10_favours_213 : decode cX10_favours 213 = .ok (.iastore, 1) := by decide +kernel
theorem dX10_favours_214 : decode cX10_favours 214 = .ok (.aload_n 0, 1) := by decide +kernel
theorem dX10_favours_215 : decode cX10_favours 215 = .ok (.getfield 60, 3) := by decide +kernel
theorem dX10_favours_218 : decode cX10_favours 218 = .ok (.iload 7, 2) := by decide +kernel
theorem dX10_favours_220 : decode cX10_favours 220 = .ok (.iconst 0, 1) := by decide +kernel
theorem dX10_favours_221 : decode cX10_favours 221 = .ok (.iastore, 1) := by decide +kernel
theorem dX10_favours_222 : decode cX10_favours 222 = .ok (.aload_n 0, 1) := by decide +kernel
theorem dX10_favours_223 : decode cX10_favours 223 = .ok (.dup, 1) := by decide +kernel
theorem dX10_favours_224 : decode cX10_favours 224 = .ok (.getfield 147, 3) := by decide +kernel
theorem dX10_favours_227 : decode cX10_favours 227 = .ok (.iconst 1, 1) := by decide +kernel
theorem dX10_favours_228 : decode cX10_favours 228 = .ok (.iadd, 1) := by decide +kernel
theorem dX10_favours_229 : decode cX10_favours 229 = .ok (.putfield 147, 3) := by decide +kernel
theorem dX10_favours_232 : decode cX10_favours 232 = .ok (.iinc 5 1, 3) := by decide +kernel
theorem dX10_favours_235 : decode cX10_favours 235 = .ok (.goto (-126), 3) := by decide +kernel
theorem dX10_favours_238 : decode cX10_favours 238 = .ok (.aload_n 0, 1) := by decide +kernel
theorem dX10_favours_239 : decode cX10_favours 239 = .ok (.getfield 48, 3) := by decide +kernel
theorem dX10_favours_242 : decode cX10_favours 242 = .ok (.iload 4, 2) := by decide +kernel
theorem dX10_favours_244 : decode cX10_favours 244 = .ok (.iload 5, 2) := by decide +kernel
theorem dX10_favours_246 : decode cX10_favours 246 = .ok (.iastore, 1) := by decide +kernel
theorem dX10_favours_247 : decode cX10_favours 247 = .ok (.aload_n 0, 1) := by decide +kernel
theorem dX10_favours_248 : decode cX10_favours 248 = .ok (.getfield 147, 3) := by decide +kernel
theorem dX10_favours_251 : decode cX10_favours 251 = .ok (.istore 7, 2) := by decide +kernel
theorem dX10_favours_253 : decode cX10_favours 253 = .ok (.aload_n 0, 1) := by decide +kernel
theorem dX10_favours_254 : decode cX10_favours 254 = .ok (.dup, 1) := by decide +kernel
theorem dX10_favours_255 : decode cX10_favours 255 = .ok (.getfield 147, 3) := by decide +kernel
theorem dX10_favours_258 : decode cX10_favours 258 = .ok (.iload_n 3, 1) := by decide +kernel
theorem dX10_favours_259 : decode cX10_favours 259 = .ok (.iadd, 1) := by decide +kernel
theorem dX10_favours_260 : decode cX10_favours 260 = .ok (.putfield 147, 3) := by decide +kernel
theorem dX10_favours_263 : decode cX10_favours 263 = .ok (.aload_n 0, 1) := by decide +kernel
theorem dX10_favours_264 : decode cX10_favours 264 = .ok (.getfield 147, 3) := by decide +kernel
theorem dX10_favours_267 : decode cX10_favours 267 = .ok (.istore 8, 2) := by decide +kernel
theorem dX10_favours_269 : decode cX10_favours 269 = .ok (.iconst 0, 1) := by decide +kernel
theorem dX10_favours_270 : decode cX10_favours 270 = .ok (.istore 9, 2) := by decide +kernel
theorem dX10_favours_272 : decode cX10_favours 272 = .ok (.iload 9, 2) := by decide +kernel
theorem dX10_favours_274 : decode cX10_favours 274 = .ok (.iload_n 3, 1) := by decide +kernel
theorem dX10_favours_275 : decode cX10_favours 275 = .ok (.if_icmp .ge 108, 3) := by decide +kernel
theorem dX10_favours_278 : decode cX10_favours 278 = .ok (.iconst 0, 1) := by decide +kernel
theorem dX10_favours_279 : decode cX10_favours 279 = .ok (.istore 10, 2) := by decide +kernel
theorem dX10_favours_281 : decode cX10_favours 281 = .ok (.iconst 0, 1) := by decide +kernel
theorem dX10_favours_282 : decode cX10_favours 282 = .ok (.istore 11, 2) := by decide +kernel
theorem dX10_favours_284 : decode cX10_favours 284 = .ok (.iload 11, 2) := by decide +kernel
theorem dX10_favours_286 : decode cX10_favours 286 = .ok (.iload 5, 2) := by decide +kernel
theorem dX10_favours_288 : decode cX10_favours 288 = .ok (.if_icmp .ge 44, 3) := by decide +kernel
theorem dX10_favours_291 : decode cX10_favours 291 = .ok (.aload_n 0, 1) := by decide +kernel
theorem dX10_favours_292 : decode cX10_favours 292 = .ok (.getfield 48, 3) := by decide +kernel
theorem dX10_favours_295 : decode cX10_favours 295 = .ok (.iload 4, 2) := by decide +kernel
theorem dX10_favours_297 : decode cX10_favours 297 = .ok (.iconst 1, 1) := by decide +kernel
theorem dX10_favours_298 : decode cX10_favours 298 = .ok (.iadd, 1) := by decide +kernel
theorem dX10_favours_299 : decode cX10_favours 299 = .ok (.iload 11, 2) := by decide +kernel
theorem dX10_favours_301 : decode cX10_favours 301 = .ok (.iadd, 1) := by decide +kernel
theorem dX10_favours_302 : decode cX10_favours 302 = .ok (.iaload, 1) := by decide +kernel
theorem dX10_favours_303 : decode cX10_favours 303 = .ok (.aload_n 0, 1) := by decide +kernel
theorem dX10_favours_304 : decode cX10_favours 304 = .ok (.getfield 48, 3) := by decide +kernel
theorem dX10_favours_307 : decode cX10_favours 307 = .ok (.iload_n 2, 1) := by decide +kernel
theorem dX10_favours_308 : decode cX10_favours 308 = .ok (.iload 9, 2) := by decide +kernel
theorem dX10_favours_310 : decode cX10_favours 310 = .ok (.iadd, 1) := by decide +kernel
theorem dX10_favours_311 : decode cX10_favours 311 = .ok (.iaload, 1) := by decide +kernel
theorem dX10_favours_312 : decode cX10_favours 312 = .ok (.if_icmp .ne 10, 3) := by decide +kernel
theorem dX10_favours_315 : decode cX10_favours 315 = .ok (.iload 11, 2) := by decide +kernel
theorem dX10_favours_317 : decode cX10_favours 317 = .ok (.iconst 1, 1) := by decide +kernel
theorem dX10_favours_318 : decode cX10_favours 318 = .ok (.iadd, 1) := by decide +kernel
theorem dX10_favours_319 : decode cX10_favours 319 = .ok (.goto 5, 3) := by decide +kernel
theorem dX10_favours_322 : decode cX10_favours 322 = .ok (.iload 10, 2) := by decide +kernel
theorem dX10_favours_324 : decode cX10_favours 324 = .ok (.istore 10, 2) := by decide +kernel
theorem dX10_favours_326 : decode cX10_favours 326 = .ok (.iinc 11 1, 3) := by decide +kernel
theorem dX10_favours_329 : decode cX10_favours 329 = .ok (.goto (-45), 3) := by decide +kernel
theorem dX10_favours_332 : decode cX10_favours 332 = .ok (.aload_n 0, 1) := by decide +kernel
theorem dX10_favours_333 : decode cX10_favours 333 = .ok (.getfield 48, 3) := by decide +kernel
theorem dX10_favours_336 : decode cX10_favours 336 = .ok (.iload 7, 2) := by decide +kernel
theorem dX10_favours_338 : decode cX10_favours 338 = .ok (.iload 9, 2) := by decide +kernel
theorem dX10_favours_340 : decode cX10_favours 340 = .ok (.iadd, 1) := by decide +kernel
theorem dX10_favours_341 : decode cX10_favours 341 = .ok (.iload 10, 2) := by decide +kernel
theorem dX10_favours_343 : decode cX10_favours 343 = .ok (.iastore, 1) := by decide +kernel
theorem dX10_favours_344 : decode cX10_favours 344 = .ok (.iload 10, 2) := by decide +kernel
theorem dX10_favours_346 : decode cX10_favours 346 = .ok (.ifCond .ne 31, 3) := by decide +kernel
theorem dX10_favours_349 : decode cX10_favours 349 = .ok (.aload_n 0, 1) := by decide +kernel
theorem dX10_favours_350 : decode cX10_favours 350 = .ok (.getfield 48, 3) := by decide +kernel
theorem dX10_favours_353 : decode cX10_favours 353 = .ok (.aload_n 0, 1) := by decide +kernel
theorem dX10_favours_354 : decode cX10_favours 354 = .ok (.getfield 147, 3) := by decide +kernel
theorem dX10_favours_357 : decode cX10_favours 357 = .ok (.aload_n 0, 1) := by decide +kernel
theorem dX10_favours_358 : decode cX10_favours 358 = .ok (.getfield 48, 3) := by decide +kernel
theorem dX10_favours_361 : decode cX10_favours 361 = .ok (.iload_n 2, 1) := by decide +kernel
theorem dX10_favours_362 : decode cX10_favours 362 = .ok (.iload 9, 2) := by decide +kernel
theorem dX10_favours_364 : decode cX10_favours 364 = .ok (.iadd, 1) := by decide +kernel
theorem dX10_favours_365 : decode cX10_favours 365 = .ok (.iaload, 1) := by decide +kernel
theorem dX10_favours_366 : decode cX10_favours 366 = .ok (.iastore, 1) := by decide +kernel
theorem dX10_favours_367 : decode cX10_favours 367 = .ok (.aload_n 0, 1) := by decide +kernel
theorem dX10_favours_368 : decode cX10_favours 368 = .ok (.dup, 1) := by decide +kernel
theorem dX10_favours_369 : decode cX10_favours 369 = .ok (.getfield 147, 3) := by decide +kernel
theorem dX10_favours_372 : decode cX10_favours 372 = .ok (.iconst 1, 1) := by decide +kernel
theorem dX10_favours_373 : decode cX10_favours 373 = .ok (.iadd, 1) := by decide +kernel
theorem dX10_favours_374 : decode cX10_favours 374 = .ok (.putfield 147, 3) := by decide +kernel
theorem dX10_favours_377 : decode cX10_favours 377 = .ok (.iinc 9 1, 3) := by decide +kernel
theorem dX10_favours_380 : decode cX10_favours 380 = .ok (.goto (-108), 3) := by decide +kernel
theorem dX10_favours_383 : decode cX10_favours 383 = .ok (.aload_n 0, 1) := by decide +kernel
theorem dX10_favours_384 : decode cX10_favours 384 = .ok (.aload_n 0, 1) := by decide +kernel
theorem dX10_favours_385 : decode cX10_favours 385 = .ok (.getfield 22, 3) := by decide +kernel
theorem dX10_favours_388 : decode cX10_favours 388 = .ok (.iload_n 1, 1) := by decide +kernel
theorem dX10_favours_389 : decode cX10_favours 389 = .ok (.iaload, 1) := by decide +kernel
theorem dX10_favours_390 : decode cX10_favours 390 = .ok (.iload 8, 2) := by decide +kernel
theorem dX10_favours_392 : decode cX10_favours 392 = .ok (.aload_n 0, 1) := by decide +kernel
theorem dX10_favours_393 : decode cX10_favours 393 = .ok (.getfield 147, 3) := by decide +kernel
theorem dX10_favours_396 : decode cX10_favours 396 = .ok (.iload 8, 2) := by decide +kernel
theorem dX10_favours_398 : decode cX10_favours 398 = .ok (.isub, 1) := by decide +kernel
theorem dX10_favours_399 : decode cX10_favours 399 = .ok (.invokevirtual 150, 3) := by decide +kernel
theorem dX10_favours_402 : decode cX10_favours 402 = .ok (.aload_n 0, 1) := by decide +kernel
theorem dX10_favours_403 : decode cX10_favours 403 = .ok (.aload_n 0, 1) := by decide +kernel
theorem dX10_favours_404 : decode cX10_favours 404 = .ok (.getfield 19, 3) := by decide +kernel
theorem dX10_favours_407 : decode cX10_favours 407 = .ok (.iload_n 1, 1) := by decide +kernel
theorem dX10_favours_408 : decode cX10_favours 408 = .ok (.iaload, 1) := by decide +kernel
theorem dX10_favours_409 : decode cX10_favours 409 = .ok (.iload 7, 2) := by decide +kernel
theorem dX10_favours_411 : decode cX10_favours 411 = .ok (.iload_n 3, 1) := by decide +kernel
theorem dX10_favours_412 : decode cX10_favours 412 = .ok (.invokevirtual 150, 3) := by decide +kernel
theorem dX10_favours_415 : decode cX10_favours 415 = .ok (.aload_n 0, 1) := by decide +kernel
theorem dX10_favours_416 : decode cX10_favours 416 = .ok (.aload_n 0, 1) := by decide +kernel
theorem dX10_favours_417 : decode cX10_favours 417 = .ok (.getfield 16, 3) := by decide +kernel
theorem dX10_favours_420 : decode cX10_favours 420 = .ok (.iload_n 1, 1) := by decide +kernel
theorem dX10_favours_421 : decode cX10_favours 421 = .ok (.iaload, 1) := by decide +kernel
theorem dX10_favours_422 : decode cX10_favours 422 = .ok (.iload 4, 2) := by decide +kernel
theorem dX10_favours_424 : decode cX10_favours 424 = .ok (.iconst 1, 1) := by decide +kernel
theorem dX10_favours_425 : decode cX10_favours 425 = .ok (.iadd, 1) := by decide +kernel
theorem dX10_favours_426 : decode cX10_favours 426 = .ok (.iload 5, 2) := by decide +kernel
theorem dX10_favours_428 : decode cX10_favours 428 = .ok (.invokevirtual 150, 3) := by decide +kernel
theorem dX10_favours_431 : decode cX10_favours 431 = .ok (.aload_n 0, 1) := by decide +kernel
theorem dX10_favours_432 : decode cX10_favours 432 = .ok (.aload_n 0, 1) := by decide +kernel
theorem dX10_favours_433 : decode cX10_favours 433 = .ok (.getfield 16, 3) := by decide +kernel
theorem dX10_favours_436 : decode cX10_favours 436 = .ok (.iload_n 1, 1) := by decide +kernel
theorem dX10_favours_437 : decode cX10_favours 437 = .ok (.iaload, 1) := by decide +kernel
theorem dX10_favours_438 : decode cX10_favours 438 = .ok (.iload 4, 2) := by decide +kernel
theorem dX10_favours_440 : decode cX10_favours 440 = .ok (.iconst 1, 1) := by decide +kernel
theorem dX10_favours_441 : decode cX10_favours 441 = .ok (.invokevirtual 150, 3) := by decide +kernel
theorem dX10_favours_444 : decode cX10_favours 444 = .ok (.return_, 1) := by decide +kernel
theorem dX10_cost_0 : decode cX10_cost 0 = .ok (.aload_n 0, 1) := by decide +kernel
theorem dX10_cost_1 : decode cX10_cost 1 = .ok (.aload_n 0, 1) := by decide +kernel
theorem dX10_cost_2 : decode cX10_cost 2 = .ok (.iload_n 1, 1) := by decide +kernel
theorem dX10_cost_3 : decode cX10_cost 3 = .ok (.invokevirtual 113, 3) := by decide +kernel
theorem dX10_cost_6 : decode cX10_cost 6 = .ok (.ifCond .eq 7, 3) := by decide +kernel
theorem dX10_cost_9 : decode cX10_cost 9 = .ok (.iconst 0, 1) := by decide +kernel
theorem dX10_cost_10 : decode cX10_cost 10 = .ok (.goto 4, 3) := by decide +kernel
theorem dX10_cost_13 : decode cX10_cost 13 = .ok (.iconst 1, 1) := by decide +kernel
theorem dX10_cost_14 : decode cX10_cost 14 = .ok (.invokevirtual 105, 3) := by decide +kernel
theorem dX10_cost_17 : decode cX10_cost 17 = .ok (.ifCond .eq 5, 3) := by decide +kernel
theorem dX10_cost_20 : decode cX10_cost 20 = .ok (.iconst 0, 1) := by decide +kernel
theorem dX10_cost_21 : decode cX10_cost 21 = .ok (.ireturn, 1) := by decide +kernel
theorem dX10_cost_22 : decode cX10_cost 22 = .ok (.aload_n 0, 1) := by decide +kernel
theorem dX10_cost_23 : decode cX10_cost 23 = .ok (.iload_n 1, 1) := by decide +kernel
theorem dX10_cost_24 : decode cX10_cost 24 = .ok (.invokevirtual 165, 3) := by decide +kernel
theorem dX10_cost_27 : decode cX10_cost 27 = .ok (.ifCond .eq 10, 3) := by decide +kernel
theorem dX10_cost_30 : decode cX10_cost 30 = .ok (.aload_n 0, 1) := by decide +kernel
theorem dX10_cost_31 : decode cX10_cost 31 = .ok (.getfield 141, 3) := by decide +kernel
theorem dX10_cost_34 : decode cX10_cost 34 = .ok (.goto 4, 3) := by decide +kernel
theorem dX10_cost_37 : decode cX10_cost 37 = .ok (.iconst (-1), 1) := by decide +kernel
theorem dX10_cost_38 : decode cX10_cost 38 = .ok (.ireturn, 1) := by decide +kernel
theorem dX10_pack_0 : decode cX10_pack 0 = .ok (.aload_n 0, 1) := by decide +kernel
theorem dX10_pack_1 : decode cX10_pack 1 = .ok (.aload_n 0, 1) := by decide +kernel
theorem dX10_pack_2 : decode cX10_pack 2 = .ok (.iload_n 1, 1) := by decide +kernel
theorem dX10_pack_3 : decode cX10_pack 3 = .ok (.invokevirtual 113, 3) := by decide +kernel
theorem dX10_pack_6 : decode cX10_pack 6 = .ok (.ifCond .eq 7, 3) := by decide +kernel
theorem dX10_pack_9 : decode cX10_pack 9 = .ok (.iconst 0, 1) := by decide +kernel
theorem dX10_pack_10 : decode cX10_pack 10 = .ok (.goto 4, 3) := by decide +kernel
theorem dX10_pack_13 : decode cX10_pack 13 = .ok (.iconst 1, 1) := by decide +kernel
theorem dX10_pack_14 : decode cX10_pack 14 = .ok (.invokevirtual 105, 3) := by decide +kernel
theorem dX10_pack_17 : decode cX10_pack 17 = .ok (.ifCond .eq 5, 3) := by decide +kernel
theorem dX10_pack_20 : decode cX10_pack 20 = .ok (.iconst 0, 1) := by decide +kernel
theorem dX10_pack_21 : decode cX10_pack 21 = .ok (.ireturn, 1) := by decide +kernel
theorem dX10_pack_22 : decode cX10_pack 22 = .ok (.aload_n 0, 1) := by decide +kernel
theorem dX10_pack_23 : decode cX10_pack 23 = .ok (.iload_n 1, 1) := by decide +kernel
theorem dX10_pack_24 : decode cX10_pack 24 = .ok (.invokevirtual 165, 3) := by decide +kernel
theorem dX10_pack_27 : decode cX10_pack 27 = .ok (.ifCond .ne 5, 3) := by decide +kernel
theorem dX10_pack_30 : decode cX10_pack 30 = .ok (.iconst (-1), 1) := by decide +kernel
theorem dX10_pack_31 : decode cX10_pack 31 = .ok (.ireturn, 1) := by decide +kernel
theorem dX10_pack_32 : decode cX10_pack 32 = .ok (.aload_n 0, 1) := by decide +kernel
theorem dX10_pack_33 : decode cX10_pack 33 = .ok (.aload_n 0, 1) := by decide +kernel
theorem dX10_pack_34 : decode cX10_pack 34 = .ok (.getfield 168, 3) := by decide +kernel
theorem dX10_pack_37 : decode cX10_pack 37 = .ok (.aload_n 0, 1) := by decide +kernel
theorem dX10_pack_38 : decode cX10_pack 38 = .ok (.getfield 141, 3) := by decide +kernel
