theorem dX10_pack_41 : decode cX10_pack 41 = .ok (.iadd, 1) := by decide +kernel
theorem dX10_pack_42 : decode cX10_pack 42 = .ok (.sipush 8000, 3) := by decide +kernel
theorem dX10_pack_45 : decode cX10_pack 45 = .ok (.if_icmp .le 7, 3) := by decide +kernel
theorem dX10_pack_48 : decode cX10_pack 48 = .ok (.iconst 2, 1) := by decide +kernel
theorem dX10_pack_49 : decode cX10_pack 49 = .ok (.goto 4, 3) := by decide +kernel
theorem dX10_pack_52 : decode cX10_pack 52 = .ok (.iconst 0, 1) := by decide +kernel
theorem dX10_pack_53 : decode cX10_pack 53 = .ok (.invokevirtual 105, 3) := by decide +kernel
theorem dX10_pack_56 : decode cX10_pack 56 = .ok (.ifCond .eq 5, 3) := by decide +kernel
theorem dX10_pack_59 : decode cX10_pack 59 = .ok (.iconst 0, 1) := by decide +kernel
theorem dX10_pack_60 : decode cX10_pack 60 = .ok (.ireturn, 1) := by decide +kernel
theorem dX10_pack_61 : decode cX10_pack 61 = .ok (.iconst 0, 1) := by decide +kernel
theorem dX10_pack_62 : decode cX10_pack 62 = .ok (.istore_n 2, 1) := by decide +kernel
theorem dX10_pack_63 : decode cX10_pack 63 = .ok (.iload_n 2, 1) := by decide +kernel
theorem dX10_pack_64 : decode cX10_pack 64 = .ok (.aload_n 0, 1) := by decide +kernel
theorem dX10_pack_65 : decode cX10_pack 65 = .ok (.getfield 141, 3) := by decide +kernel
theorem dX10_pack_68 : decode cX10_pack 68 = .ok (.if_icmp .ge 26, 3) := by decide +kernel
theorem dX10_pack_71 : decode cX10_pack 71 = .ok (.aload_n 0, 1) := by decide +kernel
theorem dX10_pack_72 : decode cX10_pack 72 = .ok (.getfield 31, 3) := by decide +kernel
theorem dX10_pack_75 : decode cX10_pack 75 = .ok (.aload_n 0, 1) := by decide +kernel
theorem dX10_pack_76 : decode cX10_pack 76 = .ok (.getfield 168, 3) := by decide +kernel
theorem dX10_pack_79 : decode cX10_pack 79 = .ok (.iload_n 2, 1) := by decide +kernel
theorem dX10_pack_80 : decode cX10_pack 80 = .ok (.iadd, 1) := by decide +kernel
theorem dX10_pack_81 : decode cX10_pack 81 = .ok (.aload_n 0, 1) := by decide +kernel
theorem dX10_pack_82 : decode cX10_pack 82 = .ok (.getfield 63, 3) := by decide +kernel
theorem dX10_pack_85 : decode cX10_pack 85 = .ok (.iload_n 2, 1) := by decide +kernel
theorem dX10_pack_86 : decode cX10_pack 86 = .ok (.iaload, 1) := by decide +kernel
theorem dX10_pack_87 : decode cX10_pack 87 = .ok (.iastore, 1) := by decide +kernel
theorem dX10_pack_88 : decode cX10_pack 88 = .ok (.iinc 2 1, 3) := by decide +kernel
theorem dX10_pack_91 : decode cX10_pack 91 = .ok (.goto (-28), 3) := by decide +kernel
theorem dX10_pack_94 : decode cX10_pack 94 = .ok (.aload_n 0, 1) := by decide +kernel
theorem dX10_pack_95 : decode cX10_pack 95 = .ok (.dup, 1) := by decide +kernel
theorem dX10_pack_96 : decode cX10_pack 96 = .ok (.getfield 168, 3) := by decide +kernel
theorem dX10_pack_99 : decode cX10_pack 99 = .ok (.aload_n 0, 1) := by decide +kernel
theorem dX10_pack_100 : decode cX10_pack 100 = .ok (.getfield 141, 3) := by decide +kernel
theorem dX10_pack_103 : decode cX10_pack 103 = .ok (.iadd, 1) := by decide +kernel
theorem dX10_pack_104 : decode cX10_pack 104 = .ok (.putfield 168, 3) := by decide +kernel
theorem dX10_pack_107 : decode cX10_pack 107 = .ok (.aload_n 0, 1) := by decide +kernel
theorem dX10_pack_108 : decode cX10_pack 108 = .ok (.getfield 141, 3) := by decide +kernel
theorem dX10_pack_111 : decode cX10_pack 111 = .ok (.ireturn, 1) := by decide +kernel
theorem dX10_into_0 : decode cX10_into 0 = .ok (.aload_n 0, 1) := by decide +kernel
theorem dX10_into_1 : decode cX10_into 1 = .ok (.getfield 66, 3) := by decide +kernel
theorem dX10_into_4 : decode cX10_into 4 = .ok (.iload_n 1, 1) := by decide +kernel
theorem dX10_into_5 : decode cX10_into 5 = .ok (.iload_n 2, 1) := by decide +kernel
theorem dX10_into_6 : decode cX10_into 6 = .ok (.iastore, 1) := by decide +kernel
theorem dX10_into_7 : decode cX10_into 7 = .ok (.aload_n 0, 1) := by decide +kernel
theorem dX10_into_8 : decode cX10_into 8 = .ok (.getfield 69, 3) := by decide +kernel
theorem dX10_into_11 : decode cX10_into 11 = .ok (.iload_n 1, 1) := by decide +kernel
theorem dX10_into_12 : decode cX10_into 12 = .ok (.iload_n 3, 1) := by decide +kernel
theorem dX10_into_13 : decode cX10_into 13 = .ok (.iastore, 1) := by decide +kernel
theorem dX10_into_14 : decode cX10_into 14 = .ok (.aload_n 0, 1) := by decide +kernel
theorem dX10_into_15 : decode cX10_into 15 = .ok (.getfield 72, 3) := by decide +kernel
theorem dX10_into_18 : decode cX10_into 18 = .ok (.iload_n 1, 1) := by decide +kernel
theorem dX10_into_19 : decode cX10_into 19 = .ok (.iload 4, 2) := by decide +kernel
theorem dX10_into_21 : decode cX10_into 21 = .ok (.iastore, 1) := by decide +kernel
theorem dX10_into_22 : decode cX10_into 22 = .ok (.aload_n 0, 1) := by decide +kernel
theorem dX10_into_23 : decode cX10_into 23 = .ok (.getfield 75, 3) := by decide +kernel
theorem dX10_into_26 : decode cX10_into 26 = .ok (.iload_n 1, 1) := by decide +kernel
theorem dX10_into_27 : decode cX10_into 27 = .ok (.iconst 0, 1) := by decide +kernel
theorem dX10_into_28 : decode cX10_into 28 = .ok (.iastore, 1) := by decide +kernel
theorem dX10_into_29 : decode cX10_into 29 = .ok (.return_, 1) := by decide +kernel
theorem dX10_room_0 : decode cX10_room 0 = .ok (.aload_n 0, 1) := by decide +kernel
theorem dX10_room_1 : decode cX10_room 1 = .ok (.dup, 1) := by decide +kernel
theorem dX10_room_2 : decode cX10_room 2 = .ok (.getfield 147, 3) := by decide +kernel
theorem dX10_room_5 : decode cX10_room 5 = .ok (.iload_n 1, 1) := by decide +kernel
theorem dX10_room_6 : decode cX10_room 6 = .ok (.iadd, 1) := by decide +kernel
theorem dX10_room_7 : decode cX10_room 7 = .ok (.putfield 147, 3) := by decide +kernel
theorem dX10_room_10 : decode cX10_room 10 = .ok (.aload_n 0, 1) := by decide +kernel
theorem dX10_room_11 : decode cX10_room 11 = .ok (.getfield 147, 3) := by decide +kernel
theorem dX10_room_14 : decode cX10_room 14 = .ok (.iload_n 1, 1) := by decide +kernel
theorem dX10_room_15 : decode cX10_room 15 = .ok (.isub, 1) := by decide +kernel
theorem dX10_room_16 : decode cX10_room 16 = .ok (.ireturn, 1) := by decide +kernel
theorem dX10_fails_0 : decode cX10_fails 0 = .ok (.aload_n 0, 1) := by decide +kernel
theorem dX10_fails_1 : decode cX10_fails 1 = .ok (.iload_n 1, 1) := by decide +kernel
theorem dX10_fails_2 : decode cX10_fails 2 = .ok (.putfield 171, 3) := by decide +kernel
theorem dX10_fails_5 : decode cX10_fails 5 = .ok (.aload_n 0, 1) := by decide +kernel
theorem dX10_fails_6 : decode cX10_fails 6 = .ok (.iload_n 2, 1) := by decide +kernel
theorem dX10_fails_7 : decode cX10_fails 7 = .ok (.putfield 174, 3) := by decide +kernel
theorem dX10_fails_10 : decode cX10_fails 10 = .ok (.return_, 1) := by decide +kernel
theorem dX10_readsCodes_0 : decode cX10_readsCodes 0 = .ok (.iconst 0, 1) := by decide +kernel
theorem dX10_readsCodes_1 : decode cX10_readsCodes 1 = .ok (.istore 4, 2) := by decide +kernel
theorem dX10_readsCodes_3 : decode cX10_readsCodes 3 = .ok (.iconst 0, 1) := by decide +kernel
theorem dX10_readsCodes_4 : decode cX10_readsCodes 4 = .ok (.istore 5, 2) := by decide +kernel
theorem dX10_readsCodes_6 : decode cX10_readsCodes 6 = .ok (.iload 5, 2) := by decide +kernel
theorem dX10_readsCodes_8 : decode cX10_readsCodes 8 = .ok (.iload_n 2, 1) := by decide +kernel
theorem dX10_readsCodes_9 : decode cX10_readsCodes 9 = .ok (.if_icmp .ge 278, 3) := by decide +kernel
theorem dX10_readsCodes_12 : decode cX10_readsCodes 12 = .ok (.aload_n 0, 1) := by decide +kernel
theorem dX10_readsCodes_13 : decode cX10_readsCodes 13 = .ok (.getfield 171, 3) := by decide +kernel
theorem dX10_readsCodes_16 : decode cX10_readsCodes 16 = .ok (.ifCond .ne 271, 3) := by decide +kernel
theorem dX10_readsCodes_19 : decode cX10_readsCodes 19 = .ok (.aload_n 0, 1) := by decide +kernel
theorem dX10_readsCodes_20 : decode cX10_readsCodes 20 = .ok (.getfield 177, 3) := by decide +kernel
theorem dX10_readsCodes_23 : decode cX10_readsCodes 23 = .ok (.istore 6, 2) := by decide +kernel
theorem dX10_readsCodes_25 : decode cX10_readsCodes 25 = .ok (.lconst 0, 1) := by decide +kernel
theorem dX10_readsCodes_26 : decode cX10_readsCodes 26 = .ok (.lstore 7, 2) := by decide +kernel
theorem dX10_readsCodes_28 : decode cX10_readsCodes 28 = .ok (.lconst 1, 1) := by decide +kernel
theorem dX10_readsCodes_29 : decode cX10_readsCodes 29 = .ok (.lstore 9, 2) := by decide +kernel
theorem dX10_readsCodes_31 : decode cX10_readsCodes 31 = .ok (.aload_n 0, 1) := by decide +kernel
theorem dX10_readsCodes_32 : decode cX10_readsCodes 32 = .ok (.getfield 13, 3) := by decide +kernel
theorem dX10_readsCodes_35 : decode cX10_readsCodes 35 = .ok (.iload_n 1, 1) := by decide +kernel
theorem dX10_readsCodes_36 : decode cX10_readsCodes 36 = .ok (.iaload, 1) := by decide +kernel
theorem dX10_readsCodes_37 : decode cX10_readsCodes 37 = .ok (.istore 11, 2) := by decide +kernel
theorem dX10_readsCodes_39 : decode cX10_readsCodes 39 = .ok (.iload 11, 2) := by decide +kernel
theorem dX10_readsCodes_41 : decode cX10_readsCodes 41 = .ok (.ifCond .le 103, 3) := by decide +kernel
theorem dX10_readsCodes_44 : decode cX10_readsCodes 44 = .ok (.aload_n 0, 1) := by decide +kernel
theorem dX10_readsCodes_45 : decode cX10_readsCodes 45 = .ok (.getfield 171, 3) := by decide +kernel
theorem dX10_readsCodes_48 : decode cX10_readsCodes 48 = .ok (.ifCond .ne 96, 3) := by decide +kernel
theorem dX10_readsCodes_51 : decode cX10_readsCodes 51 = .ok (.aload_n 0, 1) := by decide +kernel
theorem dX10_readsCodes_52 : decode cX10_readsCodes 52 = .ok (.getfield 177, 3) := by decide +kernel
theorem dX10_readsCodes_55 : decode cX10_readsCodes 55 = .ok (.aload_n 0, 1) := by decide +kernel
theorem dX10_readsCodes_56 : decode cX10_readsCodes 56 = .ok (.getfield 168, 3) := by decide +kernel
theorem dX10_readsCodes_59 : decode cX10_readsCodes 59 = .ok (.if_icmp .ne 13, 3) := by decide +kernel
theorem dX10_readsCodes_62 : decode cX10_readsCodes 62 = .ok (.aload_n 0, 1) := by decide +kernel
theorem dX10_readsCodes_63 : decode cX10_readsCodes 63 = .ok (.iconst 1, 1) := by decide +kernel
theorem dX10_readsCodes_64 : decode cX10_readsCodes 64 = .ok (.iload 6, 2) := by decide +kernel
theorem dX10_readsCodes_66 : decode cX10_readsCodes 66 = .ok (.invokevirtual 180, 3) := by decide +kernel
theorem dX10_readsCodes_69 : decode cX10_readsCodes 69 = .ok (.goto (-30), 3) := by decide +kernel
theorem dX10_readsCodes_72 : decode cX10_readsCodes 72 = .ok (.aload_n 0, 1) := by decide +kernel
theorem dX10_readsCodes_73 : decode cX10_readsCodes 73 = .ok (.getfield 31, 3) := by decide +kernel
theorem dX10_readsCodes_76 : decode cX10_readsCodes 76 = .ok (.aload_n 0, 1) := by decide +kernel
theorem dX10_readsCodes_77 : decode cX10_readsCodes 77 = .ok (.getfield 177, 3) := by decide +kernel
theorem dX10_readsCodes_80 : decode cX10_readsCodes 80 = .ok (.iaload, 1) := by decide +kernel
theorem dX10_readsCodes_81 : decode cX10_readsCodes 81 = .ok (.istore 12, 2) := by decide +kernel
theorem dX10_readsCodes_83 : decode cX10_readsCodes 83 = .ok (.aload_n 0, 1) := by decide +kernel
theorem dX10_readsCodes_84 : decode cX10_readsCodes 84 = .ok (.dup, 1) := by decide +kernel
theorem dX10_readsCodes_85 : decode cX10_readsCodes 85 = .ok (.getfield 177, 3) := by decide +kernel
theorem dX10_readsCodes_88 : decode cX10_readsCodes 88 = .ok (.iconst 1, 1) := by decide +kernel
theorem dX10_readsCodes_89 : decode cX10_readsCodes 89 = .ok (.iadd, 1) := by decide +kernel
theorem dX10_readsCodes_90 : decode cX10_readsCodes 90 = .ok (.putfield 177, 3) := by decide +kernel
theorem dX10_readsCodes_93 : decode cX10_readsCodes 93 = .ok (.lload 7, 2) := by decide +kernel
theorem dX10_readsCodes_95 : decode cX10_readsCodes 95 = .ok (.iload 12, 2) := by decide +kernel
theorem dX10_readsCodes_97 : decode cX10_readsCodes 97 = .ok (.i2l, 1) := by decide +kernel
theorem dX10_readsCodes_98 : decode cX10_readsCodes 98 = .ok (.lload 9, 2) := by decide +kernel
theorem dX10_readsCodes_100 : decode cX10_readsCodes 100 = .ok (.lmul, 1) := by decide +kernel
theorem dX10_readsCodes_101 : decode cX10_readsCodes 101 = .ok (.ladd, 1) := by decide +kernel
theorem dX10_readsCodes_102 : decode cX10_readsCodes 102 = .ok (.lstore 7, 2) := by decide +kernel
theorem dX10_readsCodes_104 : decode cX10_readsCodes 104 = .ok (.lload 9, 2) := by decide +kernel
theorem dX10_readsCodes_106 : decode cX10_readsCodes 106 = .ok (.aload_n 0, 1) := by decide +kernel
theorem dX10_readsCodes_107 : decode cX10_readsCodes 107 = .ok (.getfield 16, 3) := by decide +kernel
theorem dX10_readsCodes_110 : decode cX10_readsCodes 110 = .ok (.iload_n 1, 1) := by decide +kernel
theorem dX10_readsCodes_111 : decode cX10_readsCodes 111 = .ok (.iaload, 1) := by decide +kernel
theorem dX10_readsCodes_112 : decode cX10_readsCodes 112 = .ok (.i2l, 1) := by decide +kernel
theorem dX10_readsCodes_113 : decode cX10_readsCodes 113 = .ok (.lmul, 1) := by decide +kernel
theorem dX10_readsCodes_114 : decode cX10_readsCodes 114 = .ok (.lstore 9, 2) := by decide +kernel
theorem dX10_readsCodes_116 : decode cX10_readsCodes 116 = .ok (.iload 12, 2) := by decide +kernel
theorem dX10_readsCodes_118 : decode cX10_readsCodes 118 = .ok (.sipush 256, 3) := by decide +kernel
theorem dX10_readsCodes_121 : decode cX10_readsCodes 121 = .ok (.aload_n 0, 1) := by decide +kernel
theorem dX10_readsCodes_122 : decode cX10_readsCodes 122 = .ok (.getfield 16, 3) := by decide +kernel
theorem dX10_readsCodes_125 : decode cX10_readsCodes 125 = .ok (.iload_n 1, 1) := by decide +kernel
theorem dX10_readsCodes_126 : decode cX10_readsCodes 126 = .ok (.iaload, 1) := by decide +kernel
theorem dX10_readsCodes_127 : decode cX10_readsCodes 127 = .ok (.isub, 1) := by decide +kernel
theorem dX10_readsCodes_128 : decode cX10_readsCodes 128 = .ok (.if_icmp .ge 7, 3) := by decide +kernel
theorem dX10_readsCodes_131 : decode cX10_readsCodes 131 = .ok (.iconst 0, 1) := by decide +kernel
theorem dX10_readsCodes_132 : decode cX10_readsCodes 132 = .ok (.goto 7, 3) := by decide +kernel
theorem dX10_readsCodes_135 : decode cX10_readsCodes 135 = .ok (.iload 11, 2) := by decide +kernel
theorem dX10_readsCodes_137 : decode cX10_readsCodes 137 = .ok (.iconst 1, 1) := by decide +kernel
theorem dX10_readsCodes_138 : decode cX10_readsCodes 138 = .ok (.isub, 1) := by decide +kernel
theorem dX10_readsCodes_139 : decode cX10_readsCodes 139 = .ok (.istore 11, 2) := by decide +kernel
theorem dX10_readsCodes_141 : decode cX10_readsCodes 141 = .ok (.goto (-102), 3) := by decide +kernel
theorem dX10_readsCodes_144 : decode cX10_readsCodes 144 = .ok (.aload_n 0, 1) := by decide +kernel
theorem dX10_readsCodes_145 : decode cX10_readsCodes 145 = .ok (.getfield 19, 3) := by decide +kernel
theorem dX10_readsCodes_148 : decode cX10_readsCodes 148 = .ok (.iload_n 1, 1) := by decide +kernel
theorem dX10_readsCodes_149 : decode cX10_readsCodes 149 = .ok (.iaload, 1) := by decide +kernel
theorem dX10_readsCodes_150 : decode cX10_readsCodes 150 = .ok (.istore 12, 2) := by decide +kernel
theorem dX10_readsCodes_152 : decode cX10_readsCodes 152 = .ok (.iload 12, 2) := by decide +kernel
theorem dX10_readsCodes_154 : decode cX10_readsCodes 154 = .ok (.ifCond .le 21, 3) := by decide +kernel
theorem dX10_readsCodes_157 : decode cX10_readsCodes 157 = .ok (.lload 7, 2) := by decide +kernel
theorem dX10_readsCodes_159 : decode cX10_readsCodes 159 = .ok (.lconst 1, 1) := by decide +kernel
theorem dX10_readsCodes_160 : decode cX10_readsCodes 160 = .ok (.ladd, 1) := by decide +kernel
theorem dX10_readsCodes_161 : decode cX10_readsCodes 161 = .ok (.lconst 1, 1) := by decide +kernel
theorem dX10_readsCodes_162 : decode cX10_readsCodes 162 = .ok (.iload 12, 2) := by decide +kernel
theorem dX10_readsCodes_164 : decode cX10_readsCodes 164 = .ok (.lshl, 1) := by decide +kernel
theorem dX10_readsCodes_165 : decode cX10_readsCodes 165 = .ok (.lrem, 1) := by decide +kernel
theorem dX10_readsCodes_166 : decode cX10_readsCodes 166 = .ok (.lconst 0, 1) := by decide +kernel
theorem dX10_readsCodes_167 : decode cX10_readsCodes 167 = .ok (.lcmp, 1) := by decide +kernel
theorem dX10_readsCodes_168 : decode cX10_readsCodes 168 = .ok (.ifCond .ne 7, 3) := by decide +kernel
theorem dX10_readsCodes_171 : decode cX10_readsCodes 171 = .ok (.iconst 1, 1) := by decide +kernel
theorem dX10_readsCodes_172 : decode cX10_readsCodes 172 = .ok (.goto 4, 3) := by decide +kernel
theorem dX10_readsCodes_175 : decode cX10_readsCodes 175 = .ok (.iconst 0, 1) := by decide +kernel
theorem dX10_readsCodes_176 : decode cX10_readsCodes 176 = .ok (.istore 13, 2) := by decide +kernel
theorem dX10_readsCodes_178 : decode cX10_readsCodes 178 = .ok (.iload 13, 2) := by decide +kernel
theorem dX10_readsCodes_180 : decode cX10_readsCodes 180 = .ok (.ifCond .eq 14, 3) := by decide +kernel
theorem dX10_readsCodes_183 : decode cX10_readsCodes 183 = .ok (.lload 7, 2) := by decide +kernel
theorem dX10_readsCodes_185 : decode cX10_readsCodes 185 = .ok (.lconst 1, 1) := by decide +kernel
theorem dX10_readsCodes_186 : decode cX10_readsCodes 186 = .ok (.ladd, 1) := by decide +kernel
theorem dX10_readsCodes_187 : decode cX10_readsCodes 187 = .ok (.iload 12, 2) := by decide +kernel
theorem dX10_readsCodes_189 : decode cX10_readsCodes 189 = .ok (.lshr, 1) := by decide +kernel
theorem dX10_readsCodes_190 : decode cX10_readsCodes 190 = .ok (.lneg, 1) := by decide +kernel
theorem dX10_readsCodes_191 : decode cX10_readsCodes 191 = .ok (.goto 21, 3) := by decide +kernel
theorem dX10_readsCodes_194 : decode cX10_readsCodes 194 = .ok (.iload 12, 2) := by decide +kernel
theorem dX10_readsCodes_196 : decode cX10_readsCodes 196 = .ok (.ifCond .ne 8, 3) := by decide +kernel
theorem dX10_readsCodes_199 : decode cX10_readsCodes 199 = .ok (.lload 7, 2) := by decide +kernel
theorem dX10_readsCodes_201 : decode cX10_readsCodes 201 = .ok (.goto 11, 3) := by decide +kernel
theorem dX10_readsCodes_204 : decode cX10_readsCodes 204 = .ok (.lload 7, 2) := by decide +kernel
theorem dX10_readsCodes_206 : decode cX10_readsCodes 206 = .ok (.lload 7, 2) := by decide +kernel
theorem dX10_readsCodes_208 : decode cX10_readsCodes 208 = .ok (.iload 12, 2) := by decide +kernel
theorem dX10_readsCodes_210 : decode cX10_readsCodes 210 = .ok (.lshr, 1) := by decide +kernel
theorem dX10_readsCodes_211 : decode cX10_readsCodes 211 = .ok (.lsub, 1) := by decide +kernel
theorem dX10_readsCodes_212 : decode cX10_readsCodes 212 = .ok (.lstore 14, 2) := by decide +kernel
theorem dX10_readsCodes_214 : decode cX10_readsCodes 214 = .ok (.aload_n 0, 1) := by decide +kernel
theorem dX10_readsCodes_215 : decode cX10_readsCodes 215 = .ok (.getfield 171, 3) := by decide +kernel
theorem dX10_readsCodes_218 : decode cX10_readsCodes 218 = .ok (.ifCond .ne 28, 3) := by decide +kernel
theorem dX10_readsCodes_221 : decode cX10_readsCodes 221 = .ok (.lload 7, 2) := by decide +kernel
theorem dX10_readsCodes_223 : decode cX10_readsCodes 223 = .ok (.ldc2_w 133, 3) := by decide +kernel
theorem dX10_readsCodes_226 : decode cX10_readsCodes 226 = .ok (.lcmp, 1) := by decide +kernel
theorem dX10_readsCodes_227 : decode cX10_readsCodes 227 = .ok (.ifCond .ge 12, 3) := by decide +kernel
theorem dX10_readsCodes_230 : decode cX10_readsCodes 230 = .ok (.lload 14, 2) := by decide +kernel
theorem dX10_readsCodes_232 : decode cX10_readsCodes 232 = .ok (.ldc2_w 184, 3) := by decide +kernel
theorem dX10_readsCodes_235 : decode cX10_readsCodes 235 = .ok (.lcmp, 1) := by decide +kernel
theorem dX10_readsCodes_236 : decode cX10_readsCodes 236 = .ok (.ifCond .lt 10, 3) := by decide +kernel
theorem dX10_readsCodes_239 : decode cX10_readsCodes 239 = .ok (.aload_n 0, 1) := by decide +kernel
theorem dX10_readsCodes_240 : decode cX10_readsCodes 240 = .ok (.iconst 2, 1) := by decide +kernel
theorem dX10_readsCodes_241 : decode cX10_readsCodes 241 = .ok (.iload 6, 2) := by decide +kernel
theorem dX10_readsCodes_243 : decode cX10_readsCodes 243 = .ok (.invokevirtual 180, 3) := by decide +kernel
theorem dX10_readsCodes_246 : decode cX10_readsCodes 246 = .ok (.aload_n 0, 1) := by decide +kernel
theorem dX10_readsCodes_247 : decode cX10_readsCodes 247 = .ok (.getfield 22, 3) := by decide +kernel
theorem dX10_readsCodes_250 : decode cX10_readsCodes 250 = .ok (.iload_n 1, 1) := by decide +kernel
theorem dX10_readsCodes_251 : decode cX10_readsCodes 251 = .ok (.iaload, 1) := by decide +kernel
theorem dX10_readsCodes_252 : decode cX10_readsCodes 252 = .ok (.iconst 1, 1) := by decide +kernel
theorem dX10_readsCodes_253 : decode cX10_readsCodes 253 = .ok (.if_icmp .ne 12, 3) := by decide +kernel
theorem dX10_readsCodes_256 : decode cX10_readsCodes 256 = .ok (.iload 4, 2) := by decide +kernel
theorem dX10_readsCodes_258 : decode cX10_readsCodes 258 = .ok (.lload 14, 2) := by decide +kernel
theorem dX10_readsCodes_260 : decode cX10_readsCodes 260 = .ok (.l2i, 1) := by decide +kernel
theorem dX10_readsCodes_261 : decode cX10_readsCodes 261 = .ok (.iadd, 1) := by decide +kernel
theorem dX10_readsCodes_262 : decode cX10_readsCodes 262 = .ok (.goto 6, 3) := by decide +kernel
theorem dX10_readsCodes_265 : decode cX10_readsCodes 265 = .ok (.lload 14, 2) := by decide +kernel
theorem dX10_readsCodes_267 : decode cX10_readsCodes 267 = .ok (.l2i, 1) := by decide +kernel
theorem dX10_readsCodes_268 : decode cX10_readsCodes 268 = .ok (.istore 4, 2) := by decide +kernel
theorem dX10_readsCodes_270 : decode cX10_readsCodes 270 = .ok (.aload_n 0, 1) := by decide +kernel
theorem dX10_readsCodes_271 : decode cX10_readsCodes 271 = .ok (.getfield 48, 3) := by decide +kernel
theorem dX10_readsCodes_274 : decode cX10_readsCodes 274 = .ok (.iload_n 3, 1) := by decide +kernel
theorem dX10_readsCodes_275 : decode cX10_readsCodes 275 = .ok (.iload 5, 2) := by decide +kernel
theorem dX10_readsCodes_277 : decode cX10_readsCodes 277 = .ok (.iadd, 1) := by decide +kernel
theorem dX10_readsCodes_278 : decode cX10_readsCodes 278 = .ok (.iload 4, 2) := by decide +kernel
theorem dX10_readsCodes_280 : decode cX10_readsCodes 280 = .ok (.iastore, 1) := by decide +kernel
theorem dX10_readsCodes_281 : decode cX10_readsCodes 281 = .ok (.iinc 5 1, 3) := by decide +kernel
theorem dX10_readsCodes_284 : decode cX10_readsCodes 284 = .ok (.goto (-278), 3) := by decide +kernel
theorem dX10_readsCodes_287 : decode cX10_readsCodes 287 = .ok (.return_, 1) := by decide +kernel
theorem dX10_reads_0 : decode cX10_reads 0 = .ok (.aload_n 0, 1) := by decide +kernel
theorem dX10_reads_1 : decode cX10_reads 1 = .ok (.iload_n 2, 1) := by decide +kernel
theorem dX10_reads_2 : decode cX10_reads 2 = .ok (.putfield 147, 3) := by decide +kernel
theorem dX10_reads_5 : decode cX10_reads 5 = .ok (.aload_n 0, 1) := by decide +kernel
theorem dX10_reads_6 : decode cX10_reads 6 = .ok (.aload_n 0, 1) := by decide +kernel
theorem dX10_reads_7 : decode cX10_reads 7 = .ok (.getfield 186, 3) := by decide +kernel
theorem dX10_reads_10 : decode cX10_reads 10 = .ok (.putfield 177, 3) := by decide +kernel
theorem dX10_reads_13 : decode cX10_reads 13 = .ok (.aload_n 0, 1) := by decide +kernel
theorem dX10_reads_14 : decode cX10_reads 14 = .ok (.iconst 0, 1) := by decide +kernel
theorem dX10_reads_15 : decode cX10_reads 15 = .ok (.putfield 171, 3) := by decide +kernel
theorem dX10_reads_18 : decode cX10_reads 18 = .ok (.iconst 0, 1) := by decide +kernel
theorem dX10_reads_19 : decode cX10_reads 19 = .ok (.istore_n 3, 1) := by decide +kernel
theorem dX10_reads_20 : decode cX10_reads 20 = .ok (.aload_n 0, 1) := by decide +kernel
theorem dX10_reads_21 : decode cX10_reads 21 = .ok (.iconst 0, 1) := by decide +kernel
theorem dX10_reads_22 : decode cX10_reads 22 = .ok (.iload_n 1, 1) := by decide +kernel
theorem dX10_reads_23 : decode cX10_reads 23 = .ok (.iload_n 2, 1) := by decide +kernel
theorem dX10_reads_24 : decode cX10_reads 24 = .ok (.iconst 0, 1) := by decide +kernel
theorem dX10_reads_25 : decode cX10_reads 25 = .ok (.invokevirtual 189, 3) := by decide +kernel
theorem dX10_reads_28 : decode cX10_reads 28 = .ok (.iload_n 3, 1) := by decide +kernel
theorem dX10_reads_29 : decode cX10_reads 29 = .ok (.ifCond .lt 212, 3) := by decide +kernel
theorem dX10_reads_32 : decode cX10_reads 32 = .ok (.aload_n 0, 1) := by decide +kernel
theorem dX10_reads_33 : decode cX10_reads 33 = .ok (.getfield 171, 3) := by decide +kernel
theorem dX10_reads_36 : decode cX10_reads 36 = .ok (.ifCond .ne 205, 3) := by decide +kernel
theorem dX10_reads_39 : decode cX10_reads 39 = .ok (.aload_n 0, 1) := by decide +kernel
theorem dX10_reads_40 : decode cX10_reads 40 = .ok (.getfield 66, 3) := by decide +kernel
theorem dX10_reads_43 : decode cX10_reads 43 = .ok (.iload_n 3, 1) := by decide +kernel
theorem dX10_reads_44 : decode cX10_reads 44 = .ok (.iaload, 1) := by decide +kernel
theorem dX10_reads_45 : decode cX10_reads 45 = .ok (.istore 4, 2) := by decide +kernel
theorem dX10_reads_47 : decode cX10_reads 47 = .ok (.aload_n 0, 1) := by decide +kernel
theorem dX10_reads_48 : decode cX10_reads 48 = .ok (.getfield 69, 3) := by decide +kernel
theorem dX10_reads_51 : decode cX10_reads 51 = .ok (.iload_n 3, 1) := by decide +kernel
theorem dX10_reads_52 : decode cX10_reads 52 = .ok (.iaload, 1) := by decide +kernel
theorem dX10_reads_53 : decode cX10_reads 53 = .ok (.istore 5, 2) := by decide +kernel
theorem dX10_reads_55 : decode cX10_reads 55 = .ok (.aload_n 0, 1) := by decide +kernel
theorem dX10_reads_56 : decode cX10_reads 56 = .ok (.getfield 72, 3) := by decide +kernel
theorem dX10_reads_59 : decode cX10_reads 59 = .ok (.iload_n 3, 1) := by decide +kernel
theorem dX10_reads_60 : decode cX10_reads 60 = .ok (.iaload, 1) := by decide +kernel
theorem dX10_reads_61 : decode cX10_reads 61 = .ok (.istore 6, 2) := by decide +kernel
theorem dX10_reads_63 : decode cX10_reads 63 = .ok (.aload_n 0, 1) := by decide +kernel
theorem dX10_reads_64 : decode cX10_reads 64 = .ok (.getfield 75, 3) := by decide +kernel
theorem dX10_reads_67 : decode cX10_reads 67 = .ok (.iload_n 3, 1) := by decide +kernel
theorem dX10_reads_68 : decode cX10_reads 68 = .ok (.iaload, 1) := by decide +kernel
theorem dX10_reads_69 : decode cX10_reads 69 = .ok (.istore 7, 2) := by decide +kernel
theorem dX10_reads_71 : decode cX10_reads 71 = .ok (.aload_n 0, 1) := by decide +kernel
theorem dX10_reads_72 : decode cX10_reads 72 = .ok (.getfield 75, 3) := by decide +kernel
theorem dX10_reads_75 : decode cX10_reads 75 = .ok (.iload_n 3, 1) := by decide +kernel
theorem dX10_reads_76 : decode cX10_reads 76 = .ok (.dup2, 1) := by decide +kernel
theorem dX10_reads_77 : decode cX10_reads 77 = .ok (.iaload, 1) := by decide +kernel
theorem dX10_reads_78 : decode cX10_reads 78 = .ok (.iconst 1, 1) := by decide +kernel
theorem dX10_reads_79 : decode cX10_reads 79 = .ok (.iadd, 1) := by decide +kernel
theorem dX10_reads_80 : decode cX10_reads 80 = .ok (.iastore, 1) := by decide +kernel
theorem dX10_reads_81 : decode cX10_reads 81 = .ok (.aload_n 0, 1) := by decide +kernel
theorem dX10_reads_82 : decode cX10_reads 82 = .ok (.getfield 7, 3) := by decide +kernel
theorem dX10_reads_85 : decode cX10_reads 85 = .ok (.iload 4, 2) := by decide +kernel
theorem dX10_reads_87 : decode cX10_reads 87 = .ok (.iaload, 1) := by decide +kernel
theorem dX10_reads_88 : decode cX10_reads 88 = .ok (.ifCond .ne 19, 3) := by decide +kernel
theorem dX10_reads_91 : decode cX10_reads 91 = .ok (.aload_n 0, 1) := by decide +kernel
theorem dX10_reads_92 : decode cX10_reads 92 = .ok (.iload 4, 2) := by decide +kernel
theorem dX10_reads_94 : decode cX10_reads 94 = .ok (.iload 5, 2) := by decide +kernel
theorem dX10_reads_96 : decode cX10_reads 96 = .ok (.iload 6, 2) := by decide +kernel
theorem dX10_reads_98 : decode cX10_reads 98 = .ok (.invokevirtual 193, 3) := by decide +kernel
theorem dX10_reads_101 : decode cX10_reads 101 = .ok (.iinc 3 (-1), 3) := by decide +kernel
theorem dX10_reads_104 : decode cX10_reads 104 = .ok (.goto 134, 3) := by decide +kernel
theorem dX10_reads_107 : decode cX10_reads 107 = .ok (.aload_n 0, 1) := by decide +kernel
theorem dX10_reads_108 : decode cX10_reads 108 = .ok (.getfield 7, 3) := by decide +kernel
theorem dX10_reads_111 : decode cX10_reads 111 = .ok (.iload 4, 2) := by decide +kernel
theorem dX10_reads_113 : decode cX10_reads 113 = .ok (.iaload, 1) := by decide +kernel
theorem dX10_reads_114 : decode cX10_reads 114 = .ok (.iconst 1, 1) := by decide +kernel
theorem dX10_reads_115 : decode cX10_reads 115 = .ok (.if_icmp .ne 102, 3) := by decide +kernel
theorem dX10_reads_118 : decode cX10_reads 118 = .ok (.aload_n 0, 1) := by decide +kernel
theorem dX10_reads_119 : decode cX10_reads 119 = .ok (.getfield 13, 3) := by decide +kernel
theorem dX10_reads_122 : decode cX10_reads 122 = .ok (.iload 4, 2) := by decide +kernel
theorem dX10_reads_124 : decode cX10_reads 124 = .ok (.iaload, 1) := by decide +kernel
theorem dX10_reads_125 : decode cX10_reads 125 = .ok (.iload 5, 2) := by decide +kernel
theorem dX10_reads_127 : decode cX10_reads 127 = .ok (.if_icmp .ge 13, 3) := by decide +kernel
theorem dX10_reads_130 : decode cX10_reads 130 = .ok (.aload_n 0, 1) := by decide +kernel
theorem dX10_reads_131 : decode cX10_reads 131 = .ok (.getfield 13, 3) := by decide +kernel
theorem dX10_reads_134 : decode cX10_reads 134 = .ok (.iload 4, 2) := by decide +kernel
theorem dX10_reads_136 : decode cX10_reads 136 = .ok (.iaload, 1) := by decide +kernel
theorem dX10_reads_137 : decode cX10_reads 137 = .ok (.goto 5, 3) := by decide +kernel
theorem dX10_reads_140 : decode cX10_reads 140 = .ok (.iload 5, 2) := by decide +kernel
theorem dX10_reads_142 : decode cX10_reads 142 = .ok (.istore 8, 2) := by decide +kernel
theorem dX10_reads_144 : decode cX10_reads 144 = .ok (.iload 7, 2) := by decide +kernel
theorem dX10_reads_146 : decode cX10_reads 146 = .ok (.ifCond .ne 24, 3) := by decide +kernel
theorem dX10_reads_149 : decode cX10_reads 149 = .ok (.aload_n 0, 1) := by decide +kernel
theorem dX10_reads_150 : decode cX10_reads 150 = .ok (.iload_n 3, 1) := by decide +kernel
theorem dX10_reads_151 : decode cX10_reads 151 = .ok (.iconst 1, 1) := by decide +kernel
theorem dX10_reads_152 : decode cX10_reads 152 = .ok (.iadd, 1) := by decide +kernel
theorem dX10_reads_153 : decode cX10_reads 153 = .ok (.aload_n 0, 1) := by decide +kernel
theorem dX10_reads_154 : decode cX10_reads 154 = .ok (.getfield 16, 3) := by decide +kernel
theorem dX10_reads_157 : decode cX10_reads 157 = .ok (.iload 4, 2) := by decide +kernel
theorem dX10_reads_159 : decode cX10_reads 159 = .ok (.iaload, 1) := by decide +kernel
theorem dX10_reads_160 : decode cX10_reads 160 = .ok (.iload 8, 2) := by decide +kernel
theorem dX10_reads_162 : decode cX10_reads 162 = .ok (.iload 6, 2) := by decide +kernel
theorem dX10_reads_164 : decode cX10_reads 164 = .ok (.invokevirtual 189, 3) := by decide +kernel
theorem dX10_reads_167 : decode cX10_reads 167 = .ok (.goto 33, 3) := by decide +kernel
theorem dX10_reads_170 : decode cX10_reads 170 = .ok (.iload 7, 2) := by decide +kernel
theorem dX10_reads_172 : decode cX10_reads 172 = .ok (.iconst 1, 1) := by decide +kernel
theorem dX10_reads_173 : decode cX10_reads 173 = .ok (.if_icmp .ne 27, 3) := by decide +kernel
theorem dX10_reads_176 : decode cX10_reads 176 = .ok (.aload_n 0, 1) := by decide +kernel
theorem dX10_reads_177 : decode cX10_reads 177 = .ok (.iload_n 3, 1) := by decide +kernel
theorem dX10_reads_178 : decode cX10_reads 178 = .ok (.iconst 1, 1) := by decide +kernel
theorem dX10_reads_179 : decode cX10_reads 179 = .ok (.iadd, 1) := by decide +kernel
theorem dX10_reads_180 : decode cX10_reads 180 = .ok (.aload_n 0, 1) := by decide +kernel
theorem dX10_reads_181 : decode cX10_reads 181 = .ok (.getfield 19, 3) := by decide +kernel
theorem dX10_reads_184 : decode cX10_reads 184 = .ok (.iload 4, 2) := by decide +kernel
theorem dX10_reads_186 : decode cX10_reads 186 = .ok (.iaload, 1) := by decide +kernel
theorem dX10_reads_187 : decode cX10_reads 187 = .ok (.iload 5, 2) := by decide +kernel
theorem dX10_reads_189 : decode cX10_reads 189 = .ok (.iload 8, 2) := by decide +kernel
theorem dX10_reads_191 : decode cX10_reads 191 = .ok (.isub, 1) := by decide +kernel
theorem dX10_reads_192 : decode cX10_reads 192 = .ok (.iload 6, 2) := by decide +kernel
theorem dX10_reads_194 : decode cX10_reads 194 = .ok (.iload 8, 2) := by decide +kernel
theorem dX10_reads_196 : decode cX10_reads 196 = .ok (.iadd, 1) := by decide +kernel
theorem dX10_reads_197 : decode cX10_reads 197 = .ok (.invokevirtual 189, 3) := by decide +kernel
theorem dX10_reads_200 : decode cX10_reads 200 = .ok (.iload_n 3, 1) := by decide +kernel
theorem dX10_reads_201 : decode cX10_reads 201 = .ok (.iload 7, 2) := by decide +kernel
theorem dX10_reads_203 : decode cX10_reads 203 = .ok (.iconst 2, 1) := by decide +kernel
theorem dX10_reads_204 : decode cX10_reads 204 = .ok (.if_icmp .ne 7, 3) := by decide +kernel
theorem dX10_reads_207 : decode cX10_reads 207 = .ok (.iconst (-1), 1) := by decide +kernel
theorem dX10_reads_208 : decode cX10_reads 208 = .ok (.goto 4, 3) := by decide +kernel
theorem dX10_reads_211 : decode cX10_reads 211 = .ok (.iconst 1, 1) := by decide +kernel
theorem dX10_reads_212 : decode cX10_reads 212 = .ok (.iadd, 1) := by decide +kernel
theorem dX10_reads_213 : decode cX10_reads 213 = .ok (.istore_n 3, 1) := by decide +kernel
theorem dX10_reads_214 : decode cX10_reads 214 = .ok (.goto 24, 3) := by decide +kernel
theorem dX10_reads_217 : decode cX10_reads 217 = .ok (.aload_n 0, 1) := by decide +kernel
theorem dX10_reads_218 : decode cX10_reads 218 = .ok (.iload_n 3, 1) := by decide +kernel
theorem dX10_reads_219 : decode cX10_reads 219 = .ok (.iload 7, 2) := by decide +kernel
theorem dX10_reads_221 : decode cX10_reads 221 = .ok (.invokevirtual 196, 3) := by decide +kernel
theorem dX10_reads_224 : decode cX10_reads 224 = .ok (.iload_n 3, 1) := by decide +kernel
theorem dX10_reads_225 : decode cX10_reads 225 = .ok (.iload 7, 2) := by decide +kernel
theorem dX10_reads_227 : decode cX10_reads 227 = .ok (.iconst 4, 1) := by decide +kernel
theorem dX10_reads_228 : decode cX10_reads 228 = .ok (.if_icmp .ne 7, 3) := by decide +kernel
theorem dX10_reads_231 : decode cX10_reads 231 = .ok (.iconst (-1), 1) := by decide +kernel
theorem dX10_reads_232 : decode cX10_reads 232 = .ok (.goto 4, 3) := by decide +kernel
theorem dX10_reads_235 : decode cX10_reads 235 = .ok (.iconst 1, 1) := by decide +kernel
theorem dX10_reads_236 : decode cX10_reads 236 = .ok (.iadd, 1) := by decide +kernel
theorem dX10_reads_237 : decode cX10_reads 237 = .ok (.istore_n 3, 1) := by decide +kernel
theorem dX10_reads_238 : decode cX10_reads 238 = .ok (.goto (-210), 3) := by decide +kernel
theorem dX10_reads_241 : decode cX10_reads 241 = .ok (.return_, 1) := by decide +kernel
theorem dX10_readsPopular_0 : decode cX10_readsPopular 0 = .ok (.aload_n 0, 1) := by decide +kernel
theorem dX10_readsPopular_1 : decode cX10_readsPopular 1 = .ok (.getfield 66, 3) := by decide +kernel
theorem dX10_readsPopular_4 : decode cX10_readsPopular 4 = .ok (.iload_n 1, 1) := by decide +kernel
theorem dX10_readsPopular_5 : decode cX10_readsPopular 5 = .ok (.iaload, 1) := by decide +kernel
theorem dX10_readsPopular_6 : decode cX10_readsPopular 6 = .ok (.istore_n 3, 1) := by decide +kernel
theorem dX10_readsPopular_7 : decode cX10_readsPopular 7 = .ok (.aload_n 0, 1) := by decide +kernel
theorem dX10_readsPopular_8 : decode cX10_readsPopular 8 = .ok (.getfield 69, 3) := by decide +kernel
theorem dX10_readsPopular_11 : decode cX10_readsPopular 11 = .ok (.iload_n 1, 1) := by decide +kernel
theorem dX10_readsPopular_12 : decode cX10_readsPopular 12 = .ok (.iaload, 1) := by decide +kernel
theorem dX10_readsPopular_13 : decode cX10_readsPopular 13 = .ok (.istore 4, 2) := by decide +kernel
theorem dX10_readsPopular_15 : decode cX10_readsPopular 15 = .ok (.iload_n 2, 1) := by decide +kernel
theorem dX10_readsPopular_16 : decode cX10_readsPopular 16 = .ok (.ifCond .le 17, 3) := by decide +kernel
theorem dX10_readsPopular_19 : decode cX10_readsPopular 19 = .ok (.aload_n 0, 1) := by decide +kernel
theorem dX10_readsPopular_20 : decode cX10_readsPopular 20 = .ok (.getfield 48, 3) := by decide +kernel
theorem dX10_readsPopular_23 : decode cX10_readsPopular 23 = .ok (.aload_n 0, 1) := by decide +kernel
theorem dX10_readsPopular_24 : decode cX10_readsPopular 24 = .ok (.getfield 78, 3) := by decide +kernel
theorem dX10_readsPopular_27 : decode cX10_readsPopular 27 = .ok (.iload_n 1, 1) := by decide +kernel
theorem dX10_readsPopular_28 : decode cX10_readsPopular 28 = .ok (.iaload, 1) := by decide +kernel
theorem dX10_readsPopular_29 : decode cX10_readsPopular 29 = .ok (.iaload, 1) := by decide +kernel
theorem dX10_readsPopular_30 : decode cX10_readsPopular 30 = .ok (.goto 4, 3) := by decide +kernel
theorem dX10_readsPopular_33 : decode cX10_readsPopular 33 = .ok (.iconst 0, 1) := by decide +kernel
theorem dX10_readsPopular_34 : decode cX10_readsPopular 34 = .ok (.istore 5, 2) := by decide +kernel
theorem dX10_readsPopular_36 : decode cX10_readsPopular 36 = .ok (.iload_n 2, 1) := by decide +kernel
theorem dX10_readsPopular_37 : decode cX10_readsPopular 37 = .ok (.tableswitch 295 0 3 #[31, 75, 139, 185], 31) := by decide +kernel
theorem dX10_readsPopular_68 : decode cX10_readsPopular 68 = .ok (.aload_n 0, 1) := by decide +kernel
theorem dX10_readsPopular_69 : decode cX10_readsPopular 69 = .ok (.getfield 78, 3) := by decide +kernel
theorem dX10_readsPopular_72 : decode cX10_readsPopular 72 = .ok (.iload_n 1, 1) := by decide +kernel
theorem dX10_readsPopular_73 : decode cX10_readsPopular 73 = .ok (.aload_n 0, 1) := by decide +kernel
theorem dX10_readsPopular_74 : decode cX10_readsPopular 74 = .ok (.iconst 1, 1) := by decide +kernel
theorem dX10_readsPopular_75 : decode cX10_readsPopular 75 = .ok (.invokevirtual 199, 3) := by decide +kernel
theorem dX10_readsPopular_78 : decode cX10_readsPopular 78 = .ok (.iastore, 1) := by decide +kernel
theorem dX10_readsPopular_79 : decode cX10_readsPopular 79 = .ok (.aload_n 0, 1) := by decide +kernel
theorem dX10_readsPopular_80 : decode cX10_readsPopular 80 = .ok (.getfield 90, 3) := by decide +kernel
theorem dX10_readsPopular_83 : decode cX10_readsPopular 83 = .ok (.iload_n 1, 1) := by decide +kernel
theorem dX10_readsPopular_84 : decode cX10_readsPopular 84 = .ok (.aload_n 0, 1) := by decide +kernel
theorem dX10_readsPopular_85 : decode cX10_readsPopular 85 = .ok (.getfield 177, 3) := by decide +kernel
theorem dX10_readsPopular_88 : decode cX10_readsPopular 88 = .ok (.iastore, 1) := by decide +kernel
theorem dX10_readsPopular_89 : decode cX10_readsPopular 89 = .ok (.aload_n 0, 1) := by decide +kernel
theorem dX10_readsPopular_90 : decode cX10_readsPopular 90 = .ok (.iload_n 1, 1) := by decide +kernel
theorem dX10_readsPopular_91 : decode cX10_readsPopular 91 = .ok (.iconst 1, 1) := by decide +kernel
theorem dX10_readsPopular_92 : decode cX10_readsPopular 92 = .ok (.iadd, 1) := by decide +kernel
theorem dX10_readsPopular_93 : decode cX10_readsPopular 93 = .ok (.aload_n 0, 1) := by decide +kernel
theorem dX10_readsPopular_94 : decode cX10_readsPopular 94 = .ok (.getfield 16, 3) := by decide +kernel
theorem dX10_readsPopular_97 : decode cX10_readsPopular 97 = .ok (.iload_n 3, 1) := by decide +kernel
theorem dX10_readsPopular_98 : decode cX10_readsPopular 98 = .ok (.iaload, 1) := by decide +kernel
theorem dX10_readsPopular_99 : decode cX10_readsPopular 99 = .ok (.iconst 1, 1) := by decide +kernel
theorem dX10_readsPopular_100 : decode cX10_readsPopular 100 = .ok (.aload_n 0, 1) := by decide +kernel
theorem dX10_readsPopular_101 : decode cX10_readsPopular 101 = .ok (.getfield 78, 3) := by decide +kernel
theorem dX10_readsPopular_104 : decode cX10_readsPopular 104 = .ok (.iload_n 1, 1) := by decide +kernel
theorem dX10_readsPopular_105 : decode cX10_readsPopular 105 = .ok (.iaload, 1) := by decide +kernel
theorem dX10_readsPopular_106 : decode cX10_readsPopular 106 = .ok (.invokevirtual 189, 3) := by decide +kernel
theorem dX10_readsPopular_109 : decode cX10_readsPopular 109 = .ok (.goto 326, 3) := by decide +kernel
theorem dX10_readsPopular_112 : decode cX10_readsPopular 112 = .ok (.iload 5, 2) := by decide +kernel
theorem dX10_readsPopular_114 : decode cX10_readsPopular 114 = .ok (.ifCond .lt 14, 3) := by decide +kernel
theorem dX10_readsPopular_117 : decode cX10_readsPopular 117 = .ok (.iload 5, 2) := by decide +kernel
theorem dX10_readsPopular_119 : decode cX10_readsPopular 119 = .ok (.aload_n 0, 1) := by decide +kernel
theorem dX10_readsPopular_120 : decode cX10_readsPopular 120 = .ok (.getfield 13, 3) := by decide +kernel
theorem dX10_readsPopular_123 : decode cX10_readsPopular 123 = .ok (.iload_n 3, 1) := by decide +kernel
theorem dX10_readsPopular_124 : decode cX10_readsPopular 124 = .ok (.iaload, 1) := by decide +kernel
theorem dX10_readsPopular_125 : decode cX10_readsPopular 125 = .ok (.if_icmp .le 15, 3) := by decide +kernel
theorem dX10_readsPopular_128 : decode cX10_readsPopular 128 = .ok (.aload_n 0, 1) := by decide +kernel
theorem dX10_readsPopular_129 : decode cX10_readsPopular 129 = .ok (.iconst 3, 1) := by decide +kernel
theorem dX10_readsPopular_130 : decode cX10_readsPopular 130 = .ok (.aload_n 0, 1) := by decide +kernel
theorem dX10_readsPopular_131 : decode cX10_readsPopular 131 = .ok (.getfield 90, 3) := by decide +kernel
theorem dX10_readsPopular_134 : decode cX10_readsPopular 134 = .ok (.iload_n 1, 1) := by decide +kernel
theorem dX10_readsPopular_135 : decode cX10_readsPopular 135 = .ok (.iaload, 1) := by decide +kernel
theorem dX10_readsPopular_136 : decode cX10_readsPopular 136 = .ok (.invokevirtual 180, 3) := by decide +kernel
theorem dX10_readsPopular_139 : decode cX10_readsPopular 139 = .ok (.return_, 1) := by decide +kernel
theorem dX10_readsPopular_140 : decode cX10_readsPopular 140 = .ok (.aload_n 0, 1) := by decide +kernel
theorem dX10_readsPopular_141 : decode cX10_readsPopular 141 = .ok (.getfield 81, 3) := by decide +kernel
theorem dX10_readsPopular_144 : decode cX10_readsPopular 144 = .ok (.iload_n 1, 1) := by decide +kernel
theorem dX10_readsPopular_145 : decode cX10_readsPopular 145 = .ok (.aload_n 0, 1) := by decide +kernel
theorem dX10_readsPopular_146 : decode cX10_readsPopular 146 = .ok (.iload 5, 2) := by decide +kernel
theorem dX10_readsPopular_148 : decode cX10_readsPopular 148 = .ok (.invokevirtual 199, 3) := by decide +kernel
theorem dX10_readsPopular_151 : decode cX10_readsPopular 151 = .ok (.iastore, 1) := by decide +kernel
theorem dX10_readsPopular_152 : decode cX10_readsPopular 152 = .ok (.aload_n 0, 1) := by decide +kernel
theorem dX10_readsPopular_153 : decode cX10_readsPopular 153 = .ok (.iload_n 1, 1) := by decide +kernel
theorem dX10_readsPopular_154 : decode cX10_readsPopular 154 = .ok (.iconst 1, 1) := by decide +kernel
theorem dX10_readsPopular_155 : decode cX10_readsPopular 155 = .ok (.iadd, 1) := by decide +kernel
theorem dX10_readsPopular_156 : decode cX10_readsPopular 156 = .ok (.aload_n 0, 1) := by decide +kernel
theorem dX10_readsPopular_157 : decode cX10_readsPopular 157 = .ok (.getfield 16, 3) := by decide +kernel
theorem dX10_readsPopular_160 : decode cX10_readsPopular 160 = .ok (.iload_n 3, 1) := by decide +kernel
theorem dX10_readsPopular_161 : decode cX10_readsPopular 161 = .ok (.iaload, 1) := by decide +kernel
theorem dX10_readsPopular_162 : decode cX10_readsPopular 162 = .ok (.iload 5, 2) := by decide +kernel
theorem dX10_readsPopular_164 : decode cX10_readsPopular 164 = .ok (.aload_n 0, 1) := by decide +kernel
theorem dX10_readsPopular_165 : decode cX10_readsPopular 165 = .ok (.getfield 81, 3) := by decide +kernel
theorem dX10_readsPopular_168 : decode cX10_readsPopular 168 = .ok (.iload_n 1, 1) := by decide +kernel
theorem dX10_readsPopular_169 : decode cX10_readsPopular 169 = .ok (.iaload, 1) := by decide +kernel
theorem dX10_readsPopular_170 : decode cX10_readsPopular 170 = .ok (.invokevirtual 189, 3) := by decide +kernel
theorem dX10_readsPopular_173 : decode cX10_readsPopular 173 = .ok (.goto 262, 3) := by decide +kernel
theorem dX10_readsPopular_176 : decode cX10_readsPopular 176 = .ok (.aload_n 0, 1) := by decide +kernel
theorem dX10_readsPopular_177 : decode cX10_readsPopular 177 = .ok (.getfield 84, 3) := by decide +kernel
theorem dX10_readsPopular_180 : decode cX10_readsPopular 180 = .ok (.iload_n 1, 1) := by decide +kernel
theorem dX10_readsPopular_181 : decode cX10_readsPopular 181 = .ok (.aload_n 0, 1) := by decide +kernel
theorem dX10_readsPopular_182 : decode cX10_readsPopular 182 = .ok (.iload 4, 2) := by decide +kernel
theorem dX10_readsPopular_184 : decode cX10_readsPopular 184 = .ok (.invokevirtual 199, 3) := by decide +kernel
theorem dX10_readsPopular_187 : decode cX10_readsPopular 187 = .ok (.iastore, 1) := by decide +kernel
theorem dX10_readsPopular_188 : decode cX10_readsPopular 188 = .ok (.aload_n 0, 1) := by decide +kernel
theorem dX10_readsPopular_189 : decode cX10_readsPopular 189 = .ok (.getfield 90, 3) := by decide +kernel
theorem dX10_readsPopular_192 : decode cX10_readsPopular 192 = .ok (.iload_n 1, 1) := by decide +kernel
theorem dX10_readsPopular_193 : decode cX10_readsPopular 193 = .ok (.aload_n 0, 1) := by decide +kernel
theorem dX10_readsPopular_194 : decode cX10_readsPopular 194 = .ok (.getfield 177, 3) := by decide +kernel
theorem dX10_readsPopular_197 : decode cX10_readsPopular 197 = .ok (.iastore, 1) := by decide +kernel
theorem dX10_readsPopular_198 : decode cX10_readsPopular 198 = .ok (.aload_n 0, 1) := by decide +kernel
theorem dX10_readsPopular_199 : decode cX10_readsPopular 199 = .ok (.iload_n 1, 1) := by decide +kernel
theorem dX10_readsPopular_200 : decode cX10_readsPopular 200 = .ok (.iconst 1, 1) := by decide +kernel
theorem dX10_readsPopular_201 : decode cX10_readsPopular 201 = .ok (.iadd, 1) := by decide +kernel
theorem dX10_readsPopular_202 : decode cX10_readsPopular 202 = .ok (.aload_n 0, 1) := by decide +kernel
theorem dX10_readsPopular_203 : decode cX10_readsPopular 203 = .ok (.getfield 19, 3) := by decide +kernel
theorem dX10_readsPopular_206 : decode cX10_readsPopular 206 = .ok (.iload_n 3, 1) := by decide +kernel
theorem dX10_readsPopular_207 : decode cX10_readsPopular 207 = .ok (.iaload, 1) := by decide +kernel
theorem dX10_readsPopular_208 : decode cX10_readsPopular 208 = .ok (.iload 4, 2) := by decide +kernel
theorem dX10_readsPopular_210 : decode cX10_readsPopular 210 = .ok (.aload_n 0, 1) := by decide +kernel
theorem dX10_readsPopular_211 : decode cX10_readsPopular 211 = .ok (.getfield 84, 3) := by decide +kernel
theorem dX10_readsPopular_214 : decode cX10_readsPopular 214 = .ok (.iload_n 1, 1) := by decide +kernel
theorem dX10_readsPopular_215 : decode cX10_readsPopular 215 = .ok (.iaload, 1) := by decide +kernel
theorem dX10_readsPopular_216 : decode cX10_readsPopular 216 = .ok (.invokevirtual 189, 3) := by decide +kernel
theorem dX10_readsPopular_219 : decode cX10_readsPopular 219 = .ok (.goto 216, 3) := by decide +kernel
theorem dX10_readsPopular_222 : decode cX10_readsPopular 222 = .ok (.iconst 0, 1) := by decide +kernel
theorem dX10_readsPopular_223 : decode cX10_readsPopular 223 = .ok (.istore 6, 2) := by decide +kernel
theorem dX10_readsPopular_225 : decode cX10_readsPopular 225 = .ok (.iconst 0, 1) := by decide +kernel
theorem dX10_readsPopular_226 : decode cX10_readsPopular 226 = .ok (.istore 7, 2) := by decide +kernel
theorem dX10_readsPopular_228 : decode cX10_readsPopular 228 = .ok (.iload 7, 2) := by decide +kernel
theorem dX10_readsPopular_230 : decode cX10_readsPopular 230 = .ok (.iload 4, 2) := by decide +kernel
theorem dX10_readsPopular_232 : decode cX10_readsPopular 232 = .ok (.if_icmp .ge 64, 3) := by decide +kernel
theorem dX10_readsPopular_235 : decode cX10_readsPopular 235 = .ok (.aload_n 0, 1) := by decide +kernel
theorem dX10_readsPopular_236 : decode cX10_readsPopular 236 = .ok (.getfield 48, 3) := by decide +kernel
theorem dX10_readsPopular_239 : decode cX10_readsPopular 239 = .ok (.aload_n 0, 1) := by decide +kernel
theorem dX10_readsPopular_240 : decode cX10_readsPopular 240 = .ok (.getfield 84, 3) := by decide +kernel
theorem dX10_readsPopular_243 : decode cX10_readsPopular 243 = .ok (.iload_n 1, 1) := by decide +kernel
theorem dX10_readsPopular_244 : decode cX10_readsPopular 244 = .ok (.iaload, 1) := by decide +kernel
theorem dX10_readsPopular_245 : decode cX10_readsPopular 245 = .ok (.iload 7, 2) := by decide +kernel
theorem dX10_readsPopular_247 : decode cX10_readsPopular 247 = .ok (.iadd, 1) := by decide +kernel
theorem dX10_readsPopular_248 : decode cX10_readsPopular 248 = .ok (.iaload, 1) := by decide +kernel
theorem dX10_readsPopular_249 : decode cX10_readsPopular 249 = .ok (.istore 8, 2) := by decide +kernel
theorem dX10_readsPopular_251 : decode cX10_readsPopular 251 = .ok (.iload 8, 2) := by decide +kernel
theorem dX10_readsPopular_253 : decode cX10_readsPopular 253 = .ok (.ifCond .lt 10, 3) := by decide +kernel
theorem dX10_readsPopular_256 : decode cX10_readsPopular 256 = .ok (.iload 8, 2) := by decide +kernel
theorem dX10_readsPopular_258 : decode cX10_readsPopular 258 = .ok (.iload 5, 2) := by decide +kernel
theorem dX10_readsPopular_260 : decode cX10_readsPopular 260 = .ok (.if_icmp .le 15, 3) := by decide +kernel
theorem dX10_readsPopular_263 : decode cX10_readsPopular 263 = .ok (.aload_n 0, 1) := by decide +kernel
theorem dX10_readsPopular_264 : decode cX10_readsPopular 264 = .ok (.iconst 3, 1) := by decide +kernel
theorem dX10_readsPopular_265 : decode cX10_readsPopular 265 = .ok (.aload_n 0, 1) := by decide +kernel
theorem dX10_readsPopular_266 : decode cX10_readsPopular 266 = .ok (.getfield 90, 3) := by decide +kernel
theorem dX10_readsPopular_269 : decode cX10_readsPopular 269 = .ok (.iload_n 1, 1) := by decide +kernel
theorem dX10_readsPopular_270 : decode cX10_readsPopular 270 = .ok (.iaload, 1) := by decide +kernel
theorem dX10_readsPopular_271 : decode cX10_readsPopular 271 = .ok (.invokevirtual 180, 3) := by decide +kernel
theorem dX10_readsPopular_274 : decode cX10_readsPopular 274 = .ok (.return_, 1) := by decide +kernel
theorem dX10_readsPopular_275 : decode cX10_readsPopular 275 = .ok (.iload 6, 2) := by decide +kernel
theorem dX10_readsPopular_277 : decode cX10_readsPopular 277 = .ok (.iload 8, 2) := by decide +kernel
theorem dX10_readsPopular_279 : decode cX10_readsPopular 279 = .ok (.ifCond .ne 7, 3) := by decide +kernel
theorem dX10_readsPopular_282 : decode cX10_readsPopular 282 = .ok (.iconst 1, 1) := by decide +kernel
theorem dX10_readsPopular_283 : decode cX10_readsPopular 283 = .ok (.goto 4, 3) := by decide +kernel
theorem dX10_readsPopular_286 : decode cX10_readsPopular 286 = .ok (.iconst 0, 1) := by decide +kernel
theorem dX10_readsPopular_287 : decode cX10_readsPopular 287 = .ok (.iadd, 1) := by decide +kernel
theorem dX10_readsPopular_288 : decode cX10_readsPopular 288 = .ok (.istore 6, 2) := by decide +kernel
theorem dX10_readsPopular_290 : decode cX10_readsPopular 290 = .ok (.iinc 7 1, 3) := by decide +kernel
theorem dX10_readsPopular_293 : decode cX10_readsPopular 293 = .ok (.goto (-65), 3) := by decide +kernel
theorem dX10_readsPopular_296 : decode cX10_readsPopular 296 = .ok (.aload_n 0, 1) := by decide +kernel
theorem dX10_readsPopular_297 : decode cX10_readsPopular 297 = .ok (.getfield 87, 3) := by decide +kernel
theorem dX10_readsPopular_300 : decode cX10_readsPopular 300 = .ok (.iload_n 1, 1) := by decide +kernel
theorem dX10_readsPopular_301 : decode cX10_readsPopular 301 = .ok (.aload_n 0, 1) := by decide +kernel
theorem dX10_readsPopular_302 : decode cX10_readsPopular 302 = .ok (.iload 6, 2) := by decide +kernel
theorem dX10_readsPopular_304 : decode cX10_readsPopular 304 = .ok (.invokevirtual 199, 3) := by decide +kernel
theorem dX10_readsPopular_307 : decode cX10_readsPopular 307 = .ok (.iastore, 1) := by decide +kernel
theorem dX10_readsPopular_308 : decode cX10_readsPopular 308 = .ok (.aload_n 0, 1) := by decide +kernel
theorem dX10_readsPopular_309 : decode cX10_readsPopular 309 = .ok (.iload_n 1, 1) := by decide +kernel
theorem dX10_readsPopular_310 : decode cX10_readsPopular 310 = .ok (.iconst 1, 1) := by decide +kernel
theorem dX10_readsPopular_311 : decode cX10_readsPopular 311 = .ok (.iadd, 1) := by decide +kernel
theorem dX10_readsPopular_312 : decode cX10_readsPopular 312 = .ok (.aload_n 0, 1) := by decide +kernel
theorem dX10_readsPopular_313 : decode cX10_readsPopular 313 = .ok (.getfield 22, 3) := by decide +kernel
theorem dX10_readsPopular_316 : decode cX10_readsPopular 316 = .ok (.iload_n 3, 1) := by decide +kernel
theorem dX10_readsPopular_317 : decode cX10_readsPopular 317 = .ok (.iaload, 1) := by decide +kernel
theorem dX10_readsPopular_318 : decode cX10_readsPopular 318 = .ok (.iload 6, 2) := by decide +kernel
theorem dX10_readsPopular_320 : decode cX10_readsPopular 320 = .ok (.aload_n 0, 1) := by decide +kernel
theorem dX10_readsPopular_321 : decode cX10_readsPopular 321 = .ok (.getfield 87, 3) := by decide +kernel
theorem dX10_readsPopular_324 : decode cX10_readsPopular 324 = .ok (.iload_n 1, 1) := by decide +kernel
theorem dX10_readsPopular_325 : decode cX10_readsPopular 325 = .ok (.iaload, 1) := by decide +kernel
theorem dX10_readsPopular_326 : decode cX10_readsPopular 326 = .ok (.invokevirtual 189, 3) := by decide +kernel
theorem dX10_readsPopular_329 : decode cX10_readsPopular 329 = .ok (.goto 106, 3) := by decide +kernel
theorem dX10_readsPopular_332 : decode cX10_readsPopular 332 = .ok (.aload_n 0, 1) := by decide +kernel
theorem dX10_readsPopular_333 : decode cX10_readsPopular 333 = .ok (.getfield 87, 3) := by decide +kernel
theorem dX10_readsPopular_336 : decode cX10_readsPopular 336 = .ok (.iload_n 1, 1) := by decide +kernel
theorem dX10_readsPopular_337 : decode cX10_readsPopular 337 = .ok (.iaload, 1) := by decide +kernel
theorem dX10_readsPopular_338 : decode cX10_readsPopular 338 = .ok (.istore 6, 2) := by decide +kernel
theorem dX10_readsPopular_340 : decode cX10_readsPopular 340 = .ok (.iconst 0, 1) := by decide +kernel
theorem dX10_readsPopular_341 : decode cX10_readsPopular 341 = .ok (.istore 7, 2) := by decide +kernel
theorem dX10_readsPopular_343 : decode cX10_readsPopular 343 = .ok (.iload 7, 2) := by decide +kernel
theorem dX10_readsPopular_345 : decode cX10_readsPopular 345 = .ok (.iload 4, 2) := by decide +kernel
theorem dX10_readsPopular_347 : decode cX10_readsPopular 347 = .ok (.if_icmp .ge 85, 3) := by decide +kernel
theorem dX10_readsPopular_350 : decode cX10_readsPopular 350 = .ok (.aload_n 0, 1) := by decide +kernel
theorem dX10_readsPopular_351 : decode cX10_readsPopular 351 = .ok (.getfield 48, 3) := by decide +kernel
theorem dX10_readsPopular_354 : decode cX10_readsPopular 354 = .ok (.aload_n 0, 1) := by decide +kernel
theorem dX10_readsPopular_355 : decode cX10_readsPopular 355 = .ok (.getfield 84, 3) := by decide +kernel
theorem dX10_readsPopular_358 : decode cX10_readsPopular 358 = .ok (.iload_n 1, 1) := by decide +kernel
theorem dX10_readsPopular_359 : decode cX10_readsPopular 359 = .ok (.iaload, 1) := by decide +kernel
theorem dX10_readsPopular_360 : decode cX10_readsPopular 360 = .ok (.iload 7, 2) := by decide +kernel
theorem dX10_readsPopular_362 : decode cX10_readsPopular 362 = .ok (.iadd, 1) := by decide +kernel
theorem dX10_readsPopular_363 : decode cX10_readsPopular 363 = .ok (.iaload, 1) := by decide +kernel
theorem dX10_readsPopular_364 : decode cX10_readsPopular 364 = .ok (.istore 8, 2) := by decide +kernel
theorem dX10_readsPopular_366 : decode cX10_readsPopular 366 = .ok (.aload_n 0, 1) := by decide +kernel
theorem dX10_readsPopular_367 : decode cX10_readsPopular 367 = .ok (.getfield 48, 3) := by decide +kernel
theorem dX10_readsPopular_370 : decode cX10_readsPopular 370 = .ok (.aload_n 0, 1) := by decide +kernel
theorem dX10_readsPopular_371 : decode cX10_readsPopular 371 = .ok (.getfield 72, 3) := by decide +kernel
theorem dX10_readsPopular_374 : decode cX10_readsPopular 374 = .ok (.iload_n 1, 1) := by decide +kernel
theorem dX10_readsPopular_375 : decode cX10_readsPopular 375 = .ok (.iaload, 1) := by decide +kernel
theorem dX10_readsPopular_376 : decode cX10_readsPopular 376 = .ok (.iload 7, 2) := by decide +kernel
theorem dX10_readsPopular_378 : decode cX10_readsPopular 378 = .ok (.iadd, 1) := by decide +kernel
theorem dX10_readsPopular_379 : decode cX10_readsPopular 379 = .ok (.iload 8, 2) := by decide +kernel
theorem dX10_readsPopular_381 : decode cX10_readsPopular 381 = .ok (.ifCond .ne 13, 3) := by decide +kernel
theorem dX10_readsPopular_384 : decode cX10_readsPopular 384 = .ok (.aload_n 0, 1) := by decide +kernel
theorem dX10_readsPopular_385 : decode cX10_readsPopular 385 = .ok (.getfield 48, 3) := by decide +kernel
theorem dX10_readsPopular_388 : decode cX10_readsPopular 388 = .ok (.iload 6, 2) := by decide +kernel
theorem dX10_readsPopular_390 : decode cX10_readsPopular 390 = .ok (.iaload, 1) := by decide +kernel
theorem dX10_readsPopular_391 : decode cX10_readsPopular 391 = .ok (.goto 19, 3) := by decide +kernel
theorem dX10_readsPopular_394 : decode cX10_readsPopular 394 = .ok (.aload_n 0, 1) := by decide +kernel
theorem dX10_readsPopular_395 : decode cX10_readsPopular 395 = .ok (.getfield 48, 3) := by decide +kernel
theorem dX10_readsPopular_398 : decode cX10_readsPopular 398 = .ok (.aload_n 0, 1) := by decide +kernel
theorem dX10_readsPopular_399 : decode cX10_readsPopular 399 = .ok (.getfield 81, 3) := by decide +kernel
theorem dX10_readsPopular_402 : decode cX10_readsPopular 402 = .ok (.iload_n 1, 1) := by decide +kernel
theorem dX10_readsPopular_403 : decode cX10_readsPopular 403 = .ok (.iaload, 1) := by decide +kernel
theorem dX10_readsPopular_404 : decode cX10_readsPopular 404 = .ok (.iload 8, 2) := by decide +kernel
theorem dX10_readsPopular_406 : decode cX10_readsPopular 406 = .ok (.iadd, 1) := by decide +kernel
theorem dX10_readsPopular_407 : decode cX10_readsPopular 407 = .ok (.iconst 1, 1) := by decide +kernel
theorem dX10_readsPopular_408 : decode cX10_readsPopular 408 = .ok (.isub, 1) := by decide +kernel
theorem dX10_readsPopular_409 : decode cX10_readsPopular 409 = .ok (.iaload, 1) := by decide +kernel
theorem dX10_readsPopular_410 : decode cX10_readsPopular 410 = .ok (.iastore, 1) := by decide +kernel
theorem dX10_readsPopular_411 : decode cX10_readsPopular 411 = .ok (.iload 6, 2) := by decide +kernel
theorem dX10_readsPopular_413 : decode cX10_readsPopular 413 = .ok (.iload 8, 2) := by decide +kernel
theorem dX10_readsPopular_415 : decode cX10_readsPopular 415 = .ok (.ifCond .ne 7, 3) := by decide +kernel
theorem dX10_readsPopular_418 : decode cX10_readsPopular 418 = .ok (.iconst 1, 1) := by decide +kernel
theorem dX10_readsPopular_419 : decode cX10_readsPopular 419 = .ok (.goto 4, 3) := by decide +kernel
theorem dX10_readsPopular_422 : decode cX10_readsPopular 422 = .ok (.iconst 0, 1) := by decide +kernel
theorem dX10_readsPopular_423 : decode cX10_readsPopular 423 = .ok (.iadd, 1) := by decide +kernel
theorem dX10_readsPopular_424 : decode cX10_readsPopular 424 = .ok (.istore 6, 2) := by decide +kernel
theorem dX10_readsPopular_426 : decode cX10_readsPopular 426 = .ok (.iinc 7 1, 3) := by decide +kernel
theorem dX10_readsPopular_429 : decode cX10_readsPopular 429 = .ok (.goto (-86), 3) := by decide +kernel
theorem dX10_readsPopular_432 : decode cX10_readsPopular 432 = .ok (.goto 3, 3) := by decide +kernel
theorem dX10_readsPopular_435 : decode cX10_readsPopular 435 = .ok (.return_, 1) := by decide +kernel
theorem dX10_unpack_0 : decode cX10_unpack 0 = .ok (.aload_n 0, 1) := by decide +kernel
theorem dX10_unpack_1 : decode cX10_unpack 1 = .ok (.aload_n 0, 1) := by decide +kernel
theorem dX10_unpack_2 : decode cX10_unpack 2 = .ok (.iload_n 1, 1) := by decide +kernel
theorem dX10_unpack_3 : decode cX10_unpack 3 = .ok (.invokevirtual 113, 3) := by decide +kernel
theorem dX10_unpack_6 : decode cX10_unpack 6 = .ok (.ifCond .eq 14, 3) := by decide +kernel
theorem dX10_unpack_9 : decode cX10_unpack 9 = .ok (.iload_n 2, 1) := by decide +kernel
theorem dX10_unpack_10 : decode cX10_unpack 10 = .ok (.ifCond .lt 10, 3) := by decide +kernel
theorem dX10_unpack_13 : decode cX10_unpack 13 = .ok (.iload_n 2, 1) := by decide +kernel
theorem dX10_unpack_14 : decode cX10_unpack 14 = .ok (.sipush 400, 3) := by decide +kernel
theorem dX10_unpack_17 : decode cX10_unpack 17 = .ok (.if_icmp .le 7, 3) := by decide +kernel
theorem dX10_unpack_20 : decode cX10_unpack 20 = .ok (.iconst 1, 1) := by decide +kernel
theorem dX10_unpack_21 : decode cX10_unpack 21 = .ok (.goto 4, 3) := by decide +kernel
theorem dX10_unpack_24 : decode cX10_unpack 24 = .ok (.iconst 0, 1) := by decide +kernel
theorem dX10_unpack_25 : decode cX10_unpack 25 = .ok (.invokevirtual 105, 3) := by decide +kernel
theorem dX10_unpack_28 : decode cX10_unpack 28 = .ok (.ifCond .eq 5, 3) := by decide +kernel
theorem dX10_unpack_31 : decode cX10_unpack 31 = .ok (.iconst 0, 1) := by decide +kernel
theorem dX10_unpack_32 : decode cX10_unpack 32 = .ok (.ireturn, 1) := by decide +kernel
theorem dX10_unpack_33 : decode cX10_unpack 33 = .ok (.aload_n 0, 1) := by decide +kernel
theorem dX10_unpack_34 : decode cX10_unpack 34 = .ok (.iload_n 1, 1) := by decide +kernel
theorem dX10_unpack_35 : decode cX10_unpack 35 = .ok (.iload_n 2, 1) := by decide +kernel
theorem dX10_unpack_36 : decode cX10_unpack 36 = .ok (.invokevirtual 203, 3) := by decide +kernel
theorem dX10_unpack_39 : decode cX10_unpack 39 = .ok (.aload_n 0, 1) := by decide +kernel
theorem dX10_unpack_40 : decode cX10_unpack 40 = .ok (.aload_n 0, 1) := by decide +kernel
theorem dX10_unpack_41 : decode cX10_unpack 41 = .ok (.getfield 171, 3) := by decide +kernel
theorem dX10_unpack_44 : decode cX10_unpack 44 = .ok (.ifCond .ne 7, 3) := by decide +kernel
theorem dX10_unpack_47 : decode cX10_unpack 47 = .ok (.iconst (-1), 1) := by decide +kernel
theorem dX10_unpack_48 : decode cX10_unpack 48 = .ok (.goto 7, 3) := by decide +kernel
theorem dX10_unpack_51 : decode cX10_unpack 51 = .ok (.aload_n 0, 1) := by decide +kernel
theorem dX10_unpack_52 : decode cX10_unpack 52 = .ok (.getfield 174, 3) := by decide +kernel
theorem dX10_unpack_55 : decode cX10_unpack 55 = .ok (.putfield 34, 3) := by decide +kernel
theorem dX10_unpack_58 : decode cX10_unpack 58 = .ok (.aload_n 0, 1) := by decide +kernel
theorem dX10_unpack_59 : decode cX10_unpack 59 = .ok (.getfield 171, 3) := by decide +kernel
theorem dX10_unpack_62 : decode cX10_unpack 62 = .ok (.ifCond .le 9, 3) := by decide +kernel
theorem dX10_unpack_65 : decode cX10_unpack 65 = .ok (.aload_n 0, 1) := by decide +kernel
theorem dX10_unpack_66 : decode cX10_unpack 66 = .ok (.getfield 171, 3) := by decide +kernel
theorem dX10_unpack_69 : decode cX10_unpack 69 = .ok (.ineg, 1) := by decide +kernel
theorem dX10_unpack_70 : decode cX10_unpack 70 = .ok (.ireturn, 1) := by decide +kernel
theorem dX10_unpack_71 : decode cX10_unpack 71 = .ok (.iconst 0, 1) := by decide +kernel
theorem dX10_unpack_72 : decode cX10_unpack 72 = .ok (.istore_n 3, 1) := by decide +kernel
theorem dX10_unpack_73 : decode cX10_unpack 73 = .ok (.iload_n 3, 1) := by decide +kernel
theorem dX10_unpack_74 : decode cX10_unpack 74 = .ok (.iload_n 2, 1) := by decide +kernel
theorem dX10_unpack_75 : decode cX10_unpack 75 = .ok (.if_icmp .ge 21, 3) := by decide +kernel
theorem dX10_unpack_78 : decode cX10_unpack 78 = .ok (.aload_n 0, 1) := by decide +kernel
theorem dX10_unpack_79 : decode cX10_unpack 79 = .ok (.getfield 28, 3) := by decide +kernel
theorem dX10_unpack_82 : decode cX10_unpack 82 = .ok (.iload_n 3, 1) := by decide +kernel
theorem dX10_unpack_83 : decode cX10_unpack 83 = .ok (.aload_n 0, 1) := by decide +kernel
theorem dX10_unpack_84 : decode cX10_unpack 84 = .ok (.getfield 48, 3) := by decide +kernel
theorem dX10_unpack_87 : decode cX10_unpack 87 = .ok (.iload_n 3, 1) := by decide +kernel
theorem dX10_unpack_88 : decode cX10_unpack 88 = .ok (.iaload, 1) := by decide +kernel
theorem dX10_unpack_89 : decode cX10_unpack 89 = .ok (.iastore, 1) := by decide +kernel
theorem dX10_unpack_90 : decode cX10_unpack 90 = .ok (.iinc 3 1, 3) := by decide +kernel
theorem dX10_unpack_93 : decode cX10_unpack 93 = .ok (.goto (-20), 3) := by decide +kernel
theorem dX10_unpack_96 : decode cX10_unpack 96 = .ok (.aload_n 0, 1) := by decide +kernel
theorem dX10_unpack_97 : decode cX10_unpack 97 = .ok (.iload_n 2, 1) := by decide +kernel
theorem dX10_unpack_98 : decode cX10_unpack 98 = .ok (.putfield 120, 3) := by decide +kernel
theorem dX10_unpack_101 : decode cX10_unpack 101 = .ok (.aload_n 0, 1) := by decide +kernel
theorem dX10_unpack_102 : decode cX10_unpack 102 = .ok (.getfield 186, 3) := by decide +kernel
theorem dX10_unpack_105 : decode cX10_unpack 105 = .ok (.istore_n 3, 1) := by decide +kernel
theorem dX10_unpack_106 : decode cX10_unpack 106 = .ok (.aload_n 0, 1) := by decide +kernel
theorem dX10_unpack_107 : decode cX10_unpack 107 = .ok (.aload_n 0, 1) := by decide +kernel
theorem dX10_unpack_108 : decode cX10_unpack 108 = .ok (.getfield 177, 3) := by decide +kernel
theorem dX10_unpack_111 : decode cX10_unpack 111 = .ok (.putfield 186, 3) := by decide +kernel
theorem dX10_unpack_114 : decode cX10_unpack 114 = .ok (.aload_n 0, 1) := by decide +kernel
theorem dX10_unpack_115 : decode cX10_unpack 115 = .ok (.getfield 177, 3) := by decide +kernel
theorem dX10_unpack_118 : decode cX10_unpack 118 = .ok (.iload_n 3, 1) := by decide +kernel
theorem dX10_unpack_119 : decode cX10_unpack 119 = .ok (.isub, 1) := by decide +kernel
theorem dX10_unpack_120 : decode cX10_unpack 120 = .ok (.ireturn, 1) := by decide +kernel
theorem dX10_place_0 : decode cX10_place 0 = .ok (.aload_n 0, 1) := by decide +kernel
theorem dX10_place_1 : decode cX10_place 1 = .ok (.iconst 0, 1) := by decide +kernel
theorem dX10_place_2 : decode cX10_place 2 = .ok (.putfield 99, 3) := by decide +kernel
theorem dX10_place_5 : decode cX10_place 5 = .ok (.aload_n 0, 1) := by decide +kernel
theorem dX10_place_6 : decode cX10_place 6 = .ok (.getfield 34, 3) := by decide +kernel
theorem dX10_place_9 : decode cX10_place 9 = .ok (.ireturn, 1) := by decide +kernel
theorem dX10_best_0 : decode cX10_best 0 = .ok (.aload_n 0, 1) := by decide +kernel
theorem dX10_best_1 : decode cX10_best 1 = .ok (.aload_n 0, 1) := by decide +kernel
theorem dX10_best_2 : decode cX10_best 2 = .ok (.iload_n 1, 1) := by decide +kernel
theorem dX10_best_3 : decode cX10_best 3 = .ok (.invokevirtual 113, 3) := by decide +kernel
theorem dX10_best_6 : decode cX10_best 6 = .ok (.ifCond .eq 16, 3) := by decide +kernel
theorem dX10_best_9 : decode cX10_best 9 = .ok (.aload_n 0, 1) := by decide +kernel
theorem dX10_best_10 : decode cX10_best 10 = .ok (.iload_n 2, 1) := by decide +kernel
theorem dX10_best_11 : decode cX10_best 11 = .ok (.invokevirtual 113, 3) := by decide +kernel
theorem dX10_best_14 : decode cX10_best 14 = .ok (.ifCond .eq 8, 3) := by decide +kernel
theorem dX10_best_17 : decode cX10_best 17 = .ok (.iload_n 2, 1) := by decide +kernel
theorem dX10_best_18 : decode cX10_best 18 = .ok (.iload_n 1, 1) := by decide +kernel
theorem dX10_best_19 : decode cX10_best 19 = .ok (.if_icmp .ge 7, 3) := by decide +kernel
theorem dX10_best_22 : decode cX10_best 22 = .ok (.iconst 1, 1) := by decide +kernel
theorem dX10_best_23 : decode cX10_best 23 = .ok (.goto 4, 3) := by decide +kernel
theorem dX10_best_26 : decode cX10_best 26 = .ok (.iconst 0, 1) := by decide +kernel
theorem dX10_best_27 : decode cX10_best 27 = .ok (.invokevirtual 105, 3) := by decide +kernel
theorem dX10_best_30 : decode cX10_best 30 = .ok (.ifCond .eq 5, 3) := by decide +kernel
theorem dX10_best_33 : decode cX10_best 33 = .ok (.iconst 0, 1) := by decide +kernel
theorem dX10_best_34 : decode cX10_best 34 = .ok (.ireturn, 1) := by decide +kernel
theorem dX10_best_35 : decode cX10_best 35 = .ok (.iconst (-1), 1) := by decide +kernel
theorem dX10_best_36 : decode cX10_best 36 = .ok (.istore_n 3, 1) := by decide +kernel
theorem dX10_best_37 : decode cX10_best 37 = .ok (.iconst (-1), 1) := by decide +kernel
theorem dX10_best_38 : decode cX10_best 38 = .ok (.istore 4, 2) := by decide +kernel
theorem dX10_best_40 : decode cX10_best 40 = .ok (.iload_n 1, 1) := by decide +kernel
theorem dX10_best_41 : decode cX10_best 41 = .ok (.istore 5, 2) := by decide +kernel
theorem dX10_best_43 : decode cX10_best 43 = .ok (.iload 5, 2) := by decide +kernel
theorem dX10_best_45 : decode cX10_best 45 = .ok (.iload_n 2, 1) := by decide +kernel
theorem dX10_best_46 : decode cX10_best 46 = .ok (.if_icmp .gt 41, 3) := by decide +kernel
theorem dX10_best_49 : decode cX10_best 49 = .ok (.aload_n 0, 1) := by decide +kernel
theorem dX10_best_50 : decode cX10_best 50 = .ok (.iload 5, 2) := by decide +kernel
theorem dX10_best_52 : decode cX10_best 52 = .ok (.invokevirtual 165, 3) := by decide +kernel
theorem dX10_best_55 : decode cX10_best 55 = .ok (.ifCond .eq 26, 3) := by decide +kernel
theorem dX10_best_58 : decode cX10_best 58 = .ok (.iload 4, 2) := by decide +kernel
theorem dX10_best_60 : decode cX10_best 60 = .ok (.iconst (-1), 1) := by decide +kernel
theorem dX10_best_61 : decode cX10_best 61 = .ok (.if_icmp .eq 11, 3) := by decide +kernel
theorem dX10_best_64 : decode cX10_best 64 = .ok (.aload_n 0, 1) := by decide +kernel
theorem dX10_best_65 : decode cX10_best 65 = .ok (.getfield 141, 3) := by decide +kernel
theorem dX10_best_68 : decode cX10_best 68 = .ok (.iload_n 3, 1) := by decide +kernel
theorem dX10_best_69 : decode cX10_best 69 = .ok (.if_icmp .ge 12, 3) := by decide +kernel
theorem dX10_best_72 : decode cX10_best 72 = .ok (.iload 5, 2) := by decide +kernel
theorem dX10_best_74 : decode cX10_best 74 = .ok (.istore 4, 2) := by decide +kernel
theorem dX10_best_76 : decode cX10_best 76 = .ok (.aload_n 0, 1) := by decide +kernel
theorem dX10_best_77 : decode cX10_best 77 = .ok (.getfield 141, 3) := by decide +kernel
theorem dX10_best_80 : decode cX10_best 80 = .ok (.istore_n 3, 1) := by decide +kernel
theorem dX10_best_81 : decode cX10_best 81 = .ok (.iinc 5 1, 3) := by decide +kernel
theorem dX10_best_84 : decode cX10_best 84 = .ok (.goto (-41), 3) := by decide +kernel
theorem dX10_best_87 : decode cX10_best 87 = .ok (.iload 4, 2) := by decide +kernel
theorem dX10_best_89 : decode cX10_best 89 = .ok (.ireturn, 1) := by decide +kernel
theorem dX10_sums_0 : decode cX10_sums 0 = .ok (.sipush 401, 3) := by decide +kernel
theorem dX10_sums_3 : decode cX10_sums 3 = .ok (.iload_n 1, 1) := by decide +kernel
theorem dX10_sums_4 : decode cX10_sums 4 = .ok (.imul, 1) := by decide +kernel
theorem dX10_sums_5 : decode cX10_sums 5 = .ok (.istore_n 2, 1) := by decide +kernel
theorem dX10_sums_6 : decode cX10_sums 6 = .ok (.aload_n 0, 1) := by decide +kernel
theorem dX10_sums_7 : decode cX10_sums 7 = .ok (.getfield 93, 3) := by decide +kernel
theorem dX10_sums_10 : decode cX10_sums 10 = .ok (.iload_n 2, 1) := by decide +kernel
theorem dX10_sums_11 : decode cX10_sums 11 = .ok (.iconst 0, 1) := by decide +kernel
theorem dX10_sums_12 : decode cX10_sums 12 = .ok (.iastore, 1) := by decide +kernel
theorem dX10_sums_13 : decode cX10_sums 13 = .ok (.aload_n 0, 1) := by decide +kernel
theorem dX10_sums_14 : decode cX10_sums 14 = .ok (.getfield 96, 3) := by decide +kernel
theorem dX10_sums_17 : decode cX10_sums 17 = .ok (.iload_n 2, 1) := by decide +kernel
theorem dX10_sums_18 : decode cX10_sums 18 = .ok (.aload_n 0, 1) := by decide +kernel
theorem dX10_sums_19 : decode cX10_sums 19 = .ok (.getfield 120, 3) := by decide +kernel
theorem dX10_sums_22 : decode cX10_sums 22 = .ok (.iadd, 1) := by decide +kernel
theorem dX10_sums_23 : decode cX10_sums 23 = .ok (.iconst 0, 1) := by decide +kernel
theorem dX10_sums_24 : decode cX10_sums 24 = .ok (.iastore, 1) := by decide +kernel
theorem dX10_sums_25 : decode cX10_sums 25 = .ok (.iconst 0, 1) := by decide +kernel
theorem dX10_sums_26 : decode cX10_sums 26 = .ok (.istore_n 3, 1) := by decide +kernel
theorem dX10_sums_27 : decode cX10_sums 27 = .ok (.iload_n 3, 1) := by decide +kernel
theorem dX10_sums_28 : decode cX10_sums 28 = .ok (.aload_n 0, 1) := by decide +kernel
theorem dX10_sums_29 : decode cX10_sums 29 = .ok (.getfield 120, 3) := by decide +kernel
theorem dX10_sums_32 : decode cX10_sums 32 = .ok (.if_icmp .ge 85, 3) := by decide +kernel
theorem dX10_sums_35 : decode cX10_sums 35 = .ok (.aload_n 0, 1) := by decide +kernel
theorem dX10_sums_36 : decode cX10_sums 36 = .ok (.iload_n 1, 1) := by decide +kernel
theorem dX10_sums_37 : decode cX10_sums 37 = .ok (.aload_n 0, 1) := by decide +kernel
theorem dX10_sums_38 : decode cX10_sums 38 = .ok (.iload_n 1, 1) := by decide +kernel
theorem dX10_sums_39 : decode cX10_sums 39 = .ok (.aload_n 0, 1) := by decide +kernel
theorem dX10_sums_40 : decode cX10_sums 40 = .ok (.getfield 28, 3) := by decide +kernel
theorem dX10_sums_43 : decode cX10_sums 43 = .ok (.iload_n 3, 1) := by decide +kernel
theorem dX10_sums_44 : decode cX10_sums 44 = .ok (.iaload, 1) := by decide +kernel
theorem dX10_sums_45 : decode cX10_sums 45 = .ok (.iload_n 3, 1) := by decide +kernel
theorem dX10_sums_46 : decode cX10_sums 46 = .ok (.ifCond .ne 7, 3) := by decide +kernel
theorem dX10_sums_49 : decode cX10_sums 49 = .ok (.iconst 0, 1) := by decide +kernel
theorem dX10_sums_50 : decode cX10_sums 50 = .ok (.goto 11, 3) := by decide +kernel
theorem dX10_sums_53 : decode cX10_sums 53 = .ok (.aload_n 0, 1) := by decide +kernel
theorem dX10_sums_54 : decode cX10_sums 54 = .ok (.getfield 28, 3) := by decide +kernel
theorem dX10_sums_57 : decode cX10_sums 57 = .ok (.iload_n 3, 1) := by decide +kernel
theorem dX10_sums_58 : decode cX10_sums 58 = .ok (.iconst 1, 1) := by decide +kernel
theorem dX10_sums_59 : decode cX10_sums 59 = .ok (.isub, 1) := by decide +kernel
theorem dX10_sums_60 : decode cX10_sums 60 = .ok (.iaload, 1) := by decide +kernel
theorem dX10_sums_61 : decode cX10_sums 61 = .ok (.invokevirtual 157, 3) := by decide +kernel
theorem dX10_sums_64 : decode cX10_sums 64 = .ok (.iconst 0, 1) := by decide +kernel
theorem dX10_sums_65 : decode cX10_sums 65 = .ok (.invokevirtual 161, 3) := by decide +kernel
theorem dX10_sums_68 : decode cX10_sums 68 = .ok (.istore 4, 2) := by decide +kernel
theorem dX10_sums_70 : decode cX10_sums 70 = .ok (.aload_n 0, 1) := by decide +kernel
theorem dX10_sums_71 : decode cX10_sums 71 = .ok (.getfield 93, 3) := by decide +kernel
theorem dX10_sums_74 : decode cX10_sums 74 = .ok (.iload_n 2, 1) := by decide +kernel
theorem dX10_sums_75 : decode cX10_sums 75 = .ok (.iload_n 3, 1) := by decide +kernel
theorem dX10_sums_76 : decode cX10_sums 76 = .ok (.iadd, 1) := by decide +kernel
theorem dX10_sums_77 : decode cX10_sums 77 = .ok (.iconst 1, 1) := by decide +kernel
theorem dX10_sums_78 : decode cX10_sums 78 = .ok (.iadd, 1) := by decide +kernel
theorem dX10_sums_79 : decode cX10_sums 79 = .ok (.aload_n 0, 1) := by decide +kernel
theorem dX10_sums_80 : decode cX10_sums 80 = .ok (.getfield 93, 3) := by decide +kernel
theorem dX10_sums_83 : decode cX10_sums 83 = .ok (.iload_n 2, 1) := by decide +kernel
theorem dX10_sums_84 : decode cX10_sums 84 = .ok (.iload_n 3, 1) := by decide +kernel
theorem dX10_sums_85 : decode cX10_sums 85 = .ok (.iadd, 1) := by decide +kernel
theorem dX10_sums_86 : decode cX10_sums 86 = .ok (.iaload, 1) := by decide +kernel
theorem dX10_sums_87 : decode cX10_sums 87 = .ok (.ifCond .lt 8, 3) := by decide +kernel
theorem dX10_sums_90 : decode cX10_sums 90 = .ok (.iload 4, 2) := by decide +kernel
theorem dX10_sums_92 : decode cX10_sums 92 = .ok (.ifCond .ne 7, 3) := by decide +kernel
theorem dX10_sums_95 : decode cX10_sums 95 = .ok (.iconst (-1), 1) := by decide +kernel
theorem dX10_sums_96 : decode cX10_sums 96 = .ok (.goto 14, 3) := by decide +kernel
theorem dX10_sums_99 : decode cX10_sums 99 = .ok (.aload_n 0, 1) := by decide +kernel
theorem dX10_sums_100 : decode cX10_sums 100 = .ok (.getfield 93, 3) := by decide +kernel
theorem dX10_sums_103 : decode cX10_sums 103 = .ok (.iload_n 2, 1) := by decide +kernel
theorem dX10_sums_104 : decode cX10_sums 104 = .ok (.iload_n 3, 1) := by decide +kernel
theorem dX10_sums_105 : decode cX10_sums 105 = .ok (.iadd, 1) := by decide +kernel
theorem dX10_sums_106 : decode cX10_sums 106 = .ok (.iaload, 1) := by decide +kernel
theorem dX10_sums_107 : decode cX10_sums 107 = .ok (.iload 4, 2) := by decide +kernel
theorem dX10_sums_109 : decode cX10_sums 109 = .ok (.iadd, 1) := by decide +kernel
theorem dX10_sums_110 : decode cX10_sums 110 = .ok (.iastore, 1) := by decide +kernel
theorem dX10_sums_111 : decode cX10_sums 111 = .ok (.iinc 3 1, 3) := by decide +kernel
theorem dX10_sums_114 : decode cX10_sums 114 = .ok (.goto (-87), 3) := by decide +kernel
theorem dX10_sums_117 : decode cX10_sums 117 = .ok (.iconst 0, 1) := by decide +kernel
theorem dX10_sums_118 : decode cX10_sums 118 = .ok (.istore_n 3, 1) := by decide +kernel
theorem dX10_sums_119 : decode cX10_sums 119 = .ok (.aload_n 0, 1) := by decide +kernel
theorem dX10_sums_120 : decode cX10_sums 120 = .ok (.getfield 120, 3) := by decide +kernel
theorem dX10_sums_123 : decode cX10_sums 123 = .ok (.iconst 1, 1) := by decide +kernel
theorem dX10_sums_124 : decode cX10_sums 124 = .ok (.isub, 1) := by decide +kernel
theorem dX10_sums_125 : decode cX10_sums 125 = .ok (.istore 4, 2) := by decide +kernel
theorem dX10_sums_127 : decode cX10_sums 127 = .ok (.iload 4, 2) := by decide +kernel
theorem dX10_sums_129 : decode cX10_sums 129 = .ok (.ifCond .lt 106, 3) := by decide +kernel
theorem dX10_sums_132 : decode cX10_sums 132 = .ok (.aload_n 0, 1) := by decide +kernel
theorem dX10_sums_133 : decode cX10_sums 133 = .ok (.iload_n 1, 1) := by decide +kernel
theorem dX10_sums_134 : decode cX10_sums 134 = .ok (.aload_n 0, 1) := by decide +kernel
theorem dX10_sums_135 : decode cX10_sums 135 = .ok (.getfield 28, 3) := by decide +kernel
theorem dX10_sums_138 : decode cX10_sums 138 = .ok (.iload 4, 2) := by decide +kernel
theorem dX10_sums_140 : decode cX10_sums 140 = .ok (.iaload, 1) := by decide +kernel
theorem dX10_sums_141 : decode cX10_sums 141 = .ok (.iconst 0, 1) := by decide +kernel
theorem dX10_sums_142 : decode cX10_sums 142 = .ok (.invokevirtual 161, 3) := by decide +kernel
theorem dX10_sums_145 : decode cX10_sums 145 = .ok (.istore 5, 2) := by decide +kernel
theorem dX10_sums_147 : decode cX10_sums 147 = .ok (.aload_n 0, 1) := by decide +kernel
theorem dX10_sums_148 : decode cX10_sums 148 = .ok (.getfield 96, 3) := by decide +kernel
theorem dX10_sums_151 : decode cX10_sums 151 = .ok (.iload_n 2, 1) := by decide +kernel
theorem dX10_sums_152 : decode cX10_sums 152 = .ok (.iload 4, 2) := by decide +kernel
theorem dX10_sums_154 : decode cX10_sums 154 = .ok (.iadd, 1) := by decide +kernel
theorem dX10_sums_155 : decode cX10_sums 155 = .ok (.iload_n 3, 1) := by decide +kernel
theorem dX10_sums_156 : decode cX10_sums 156 = .ok (.ifCond .lt 8, 3) := by decide +kernel
theorem dX10_sums_159 : decode cX10_sums 159 = .ok (.iload 5, 2) := by decide +kernel
theorem dX10_sums_161 : decode cX10_sums 161 = .ok (.ifCond .ne 7, 3) := by decide +kernel
theorem dX10_sums_164 : decode cX10_sums 164 = .ok (.iconst (-1), 1) := by decide +kernel
theorem dX10_sums_165 : decode cX10_sums 165 = .ok (.goto 7, 3) := by decide +kernel
theorem dX10_sums_168 : decode cX10_sums 168 = .ok (.iload_n 3, 1) := by decide +kernel
theorem dX10_sums_169 : decode cX10_sums 169 = .ok (.iload 5, 2) := by decide +kernel
theorem dX10_sums_171 : decode cX10_sums 171 = .ok (.iadd, 1) := by decide +kernel
theorem dX10_sums_172 : decode cX10_sums 172 = .ok (.iastore, 1) := by decide +kernel
theorem dX10_sums_173 : decode cX10_sums 173 = .ok (.iload 4, 2) := by decide +kernel
theorem dX10_sums_175 : decode cX10_sums 175 = .ok (.ifCond .ne 7, 3) := by decide +kernel
theorem dX10_sums_178 : decode cX10_sums 178 = .ok (.iconst 0, 1) := by decide +kernel
theorem dX10_sums_179 : decode cX10_sums 179 = .ok (.goto 30, 3) := by decide +kernel
theorem dX10_sums_182 : decode cX10_sums 182 = .ok (.aload_n 0, 1) := by decide +kernel
theorem dX10_sums_183 : decode cX10_sums 183 = .ok (.iload_n 1, 1) := by decide +kernel
theorem dX10_sums_184 : decode cX10_sums 184 = .ok (.aload_n 0, 1) := by decide +kernel
theorem dX10_sums_185 : decode cX10_sums 185 = .ok (.iload_n 1, 1) := by decide +kernel
theorem dX10_sums_186 : decode cX10_sums 186 = .ok (.aload_n 0, 1) := by decide +kernel
theorem dX10_sums_187 : decode cX10_sums 187 = .ok (.getfield 28, 3) := by decide +kernel
theorem dX10_sums_190 : decode cX10_sums 190 = .ok (.iload 4, 2) := by decide +kernel
theorem dX10_sums_192 : decode cX10_sums 192 = .ok (.iaload, 1) := by decide +kernel
theorem dX10_sums_193 : decode cX10_sums 193 = .ok (.aload_n 0, 1) := by decide +kernel
theorem dX10_sums_194 : decode cX10_sums 194 = .ok (.getfield 28, 3) := by decide +kernel
theorem dX10_sums_197 : decode cX10_sums 197 = .ok (.iload 4, 2) := by decide +kernel
theorem dX10_sums_199 : decode cX10_sums 199 = .ok (.iconst 1, 1) := by decide +kernel
theorem dX10_sums_200 : decode cX10_sums 200 = .ok (.isub, 1) := by decide +kernel
theorem dX10_sums_201 : decode cX10_sums 201 = .ok (.iaload, 1) := by decide +kernel
theorem dX10_sums_202 : decode cX10_sums 202 = .ok (.invokevirtual 157, 3) := by decide +kernel
theorem dX10_sums_205 : decode cX10_sums 205 = .ok (.iconst 0, 1) := by decide +kernel
theorem dX10_sums_206 : decode cX10_sums 206 = .ok (.invokevirtual 161, 3) := by decide +kernel
theorem dX10_sums_209 : decode cX10_sums 209 = .ok (.istore 6, 2) := by decide +kernel
theorem dX10_sums_211 : decode cX10_sums 211 = .ok (.iload_n 3, 1) := by decide +kernel
theorem dX10_sums_212 : decode cX10_sums 212 = .ok (.ifCond .lt 8, 3) := by decide +kernel
theorem dX10_sums_215 : decode cX10_sums 215 = .ok (.iload 6, 2) := by decide +kernel
theorem dX10_sums_217 : decode cX10_sums 217 = .ok (.ifCond .ne 7, 3) := by decide +kernel
theorem dX10_sums_220 : decode cX10_sums 220 = .ok (.iconst (-1), 1) := by decide +kernel
theorem dX10_sums_221 : decode cX10_sums 221 = .ok (.goto 7, 3) := by decide +kernel
theorem dX10_sums_224 : decode cX10_sums 224 = .ok (.iload_n 3, 1) := by decide +kernel
theorem dX10_sums_225 : decode cX10_sums 225 = .ok (.iload 6, 2) := by decide +kernel
theorem dX10_sums_227 : decode cX10_sums 227 = .ok (.iadd, 1) := by decide +kernel
theorem dX10_sums_228 : decode cX10_sums 228 = .ok (.istore_n 3, 1) := by decide +kernel
theorem dX10_sums_229 : decode cX10_sums 229 = .ok (.iinc 4 (-1), 3) := by decide +kernel
theorem dX10_sums_232 : decode cX10_sums 232 = .ok (.goto (-105), 3) := by decide +kernel
theorem dX10_sums_235 : decode cX10_sums 235 = .ok (.return_, 1) := by decide +kernel
theorem dX10_bestRun_0 : decode cX10_bestRun 0 = .ok (.aload_n 0, 1) := by decide +kernel
theorem dX10_bestRun_1 : decode cX10_bestRun 1 = .ok (.iconst 0, 1) := by decide +kernel
theorem dX10_bestRun_2 : decode cX10_bestRun 2 = .ok (.putfield 99, 3) := by decide +kernel
theorem dX10_bestRun_5 : decode cX10_bestRun 5 = .ok (.iconst (-1), 1) := by decide +kernel
theorem dX10_bestRun_6 : decode cX10_bestRun 6 = .ok (.istore_n 1, 1) := by decide +kernel
theorem dX10_bestRun_7 : decode cX10_bestRun 7 = .ok (.aload_n 0, 1) := by decide +kernel
theorem dX10_bestRun_8 : decode cX10_bestRun 8 = .ok (.iconst (-1), 1) := by decide +kernel
theorem dX10_bestRun_9 : decode cX10_bestRun 9 = .ok (.putfield 38, 3) := by decide +kernel
theorem dX10_bestRun_12 : decode cX10_bestRun 12 = .ok (.aload_n 0, 1) := by decide +kernel
theorem dX10_bestRun_13 : decode cX10_bestRun 13 = .ok (.iconst (-1), 1) := by decide +kernel
theorem dX10_bestRun_14 : decode cX10_bestRun 14 = .ok (.putfield 41, 3) := by decide +kernel
theorem dX10_bestRun_17 : decode cX10_bestRun 17 = .ok (.aload_n 0, 1) := by decide +kernel
theorem dX10_bestRun_18 : decode cX10_bestRun 18 = .ok (.iconst (-1), 1) := by decide +kernel
theorem dX10_bestRun_19 : decode cX10_bestRun 19 = .ok (.putfield 44, 3) := by decide +kernel
theorem dX10_bestRun_22 : decode cX10_bestRun 22 = .ok (.iconst 0, 1) := by decide +kernel
theorem dX10_bestRun_23 : decode cX10_bestRun 23 = .ok (.istore_n 2, 1) := by decide +kernel
theorem dX10_bestRun_24 : decode cX10_bestRun 24 = .ok (.iload_n 2, 1) := by decide +kernel
theorem dX10_bestRun_25 : decode cX10_bestRun 25 = .ok (.aload_n 0, 1) := by decide +kernel
theorem dX10_bestRun_26 : decode cX10_bestRun 26 = .ok (.getfield 102, 3) := by decide +kernel
theorem dX10_bestRun_29 : decode cX10_bestRun 29 = .ok (.if_icmp .ge 23, 3) := by decide +kernel
theorem dX10_bestRun_32 : decode cX10_bestRun 32 = .ok (.aload_n 0, 1) := by decide +kernel
theorem dX10_bestRun_33 : decode cX10_bestRun 33 = .ok (.getfield 7, 3) := by decide +kernel
theorem dX10_bestRun_36 : decode cX10_bestRun 36 = .ok (.iload_n 2, 1) := by decide +kernel
theorem dX10_bestRun_37 : decode cX10_bestRun 37 = .ok (.iaload, 1) := by decide +kernel
theorem dX10_bestRun_38 : decode cX10_bestRun 38 = .ok (.ifCond .ne 8, 3) := by decide +kernel
theorem dX10_bestRun_41 : decode cX10_bestRun 41 = .ok (.aload_n 0, 1) := by decide +kernel
theorem dX10_bestRun_42 : decode cX10_bestRun 42 = .ok (.iload_n 2, 1) := by decide +kernel
theorem dX10_bestRun_43 : decode cX10_bestRun 43 = .ok (.invokevirtual 206, 3) := by decide +kernel
theorem dX10_bestRun_46 : decode cX10_bestRun 46 = .ok (.iinc 2 1, 3) := by decide +kernel
theorem dX10_bestRun_49 : decode cX10_bestRun 49 = .ok (.goto (-25), 3) := by decide +kernel
theorem dX10_bestRun_52 : decode cX10_bestRun 52 = .ok (.iconst 0, 1) := by decide +kernel
theorem dX10_bestRun_53 : decode cX10_bestRun 53 = .ok (.istore_n 2, 1) := by decide +kernel
theorem dX10_bestRun_54 : decode cX10_bestRun 54 = .ok (.iload_n 2, 1) := by decide +kernel
theorem dX10_bestRun_55 : decode cX10_bestRun 55 = .ok (.aload_n 0, 1) := by decide +kernel
theorem dX10_bestRun_56 : decode cX10_bestRun 56 = .ok (.getfield 120, 3) := by decide +kernel
theorem dX10_bestRun_59 : decode cX10_bestRun 59 = .ok (.if_icmp .gt 154, 3) := by decide +kernel
theorem dX10_bestRun_62 : decode cX10_bestRun 62 = .ok (.iconst 0, 1) := by decide +kernel
theorem dX10_bestRun_63 : decode cX10_bestRun 63 = .ok (.istore_n 3, 1) := by decide +kernel
theorem dX10_bestRun_64 : decode cX10_bestRun 64 = .ok (.iload_n 3, 1) := by decide +kernel
theorem dX10_bestRun_65 : decode cX10_bestRun 65 = .ok (.aload_n 0, 1) := by decide +kernel
theorem dX10_bestRun_66 : decode cX10_bestRun 66 = .ok (.getfield 102, 3) := by decide +kernel
theorem dX10_bestRun_69 : decode cX10_bestRun 69 = .ok (.if_icmp .ge 138, 3) := by decide +kernel
theorem dX10_bestRun_72 : decode cX10_bestRun 72 = .ok (.iconst 0, 1) := by decide +kernel
theorem dX10_bestRun_73 : decode cX10_bestRun 73 = .ok (.istore 4, 2) := by decide +kernel
theorem dX10_bestRun_75 : decode cX10_bestRun 75 = .ok (.iload 4, 2) := by decide +kernel
theorem dX10_bestRun_77 : decode cX10_bestRun 77 = .ok (.aload_n 0, 1) := by decide +kernel
theorem dX10_bestRun_78 : decode cX10_bestRun 78 = .ok (.getfield 102, 3) := by decide +kernel
theorem dX10_bestRun_81 : decode cX10_bestRun 81 = .ok (.if_icmp .ge 120, 3) := by decide +kernel
theorem dX10_bestRun_84 : decode cX10_bestRun 84 = .ok (.aload_n 0, 1) := by decide +kernel
theorem dX10_bestRun_85 : decode cX10_bestRun 85 = .ok (.getfield 7, 3) := by decide +kernel
theorem dX10_bestRun_88 : decode cX10_bestRun 88 = .ok (.iload_n 3, 1) := by decide +kernel
theorem dX10_bestRun_89 : decode cX10_bestRun 89 = .ok (.iaload, 1) := by decide +kernel
theorem dX10_bestRun_90 : decode cX10_bestRun 90 = .ok (.ifCond .ne 111, 3) := by decide +kernel
theorem dX10_bestRun_93 : decode cX10_bestRun 93 = .ok (.aload_n 0, 1) := by decide +kernel
theorem dX10_bestRun_94 : decode cX10_bestRun 94 = .ok (.getfield 93, 3) := by decide +kernel
theorem dX10_bestRun_97 : decode cX10_bestRun 97 = .ok (.sipush 401, 3) := by decide +kernel
theorem dX10_bestRun_100 : decode cX10_bestRun 100 = .ok (.iload_n 3, 1) := by decide +kernel
theorem dX10_bestRun_101 : decode cX10_bestRun 101 = .ok (.imul, 1) := by decide +kernel
theorem dX10_bestRun_102 : decode cX10_bestRun 102 = .ok (.iload_n 2, 1) := by decide +kernel
theorem dX10_bestRun_103 : decode cX10_bestRun 103 = .ok (.iadd, 1) := by decide +kernel
theorem dX10_bestRun_104 : decode cX10_bestRun 104 = .ok (.iaload, 1) := by decide +kernel
theorem dX10_bestRun_105 : decode cX10_bestRun 105 = .ok (.ifCond .lt 96, 3) := by decide +kernel
theorem dX10_bestRun_108 : decode cX10_bestRun 108 = .ok (.aload_n 0, 1) := by decide +kernel
theorem dX10_bestRun_109 : decode cX10_bestRun 109 = .ok (.getfield 7, 3) := by decide +kernel
theorem dX10_bestRun_112 : decode cX10_bestRun 112 = .ok (.iload 4, 2) := by decide +kernel
theorem dX10_bestRun_114 : decode cX10_bestRun 114 = .ok (.iaload, 1) := by decide +kernel
theorem dX10_bestRun_115 : decode cX10_bestRun 115 = .ok (.ifCond .ne 80, 3) := by decide +kernel
theorem dX10_bestRun_118 : decode cX10_bestRun 118 = .ok (.aload_n 0, 1) := by decide +kernel
theorem dX10_bestRun_119 : decode cX10_bestRun 119 = .ok (.getfield 96, 3) := by decide +kernel
theorem dX10_bestRun_122 : decode cX10_bestRun 122 = .ok (.sipush 401, 3) := by decide +kernel
theorem dX10_bestRun_125 : decode cX10_bestRun 125 = .ok (.iload 4, 2) := by decide +kernel
theorem dX10_bestRun_127 : decode cX10_bestRun 127 = .ok (.imul, 1) := by decide +kernel
theorem dX10_bestRun_128 : decode cX10_bestRun 128 = .ok (.iload_n 2, 1) := by decide +kernel
theorem dX10_bestRun_129 : decode cX10_bestRun 129 = .ok (.iadd, 1) := by decide +kernel
theorem dX10_bestRun_130 : decode cX10_bestRun 130 = .ok (.iaload, 1) := by decide +kernel
theorem dX10_bestRun_131 : decode cX10_bestRun 131 = .ok (.ifCond .ge 6, 3) := by decide +kernel
theorem dX10_bestRun_134 : decode cX10_bestRun 134 = .ok (.goto 61, 3) := by decide +kernel
theorem dX10_bestRun_137 : decode cX10_bestRun 137 = .ok (.aload_n 0, 1) := by decide +kernel
theorem dX10_bestRun_138 : decode cX10_bestRun 138 = .ok (.getfield 93, 3) := by decide +kernel
theorem dX10_bestRun_141 : decode cX10_bestRun 141 = .ok (.sipush 401, 3) := by decide +kernel
theorem dX10_bestRun_144 : decode cX10_bestRun 144 = .ok (.iload_n 3, 1) := by decide +kernel
theorem dX10_bestRun_145 : decode cX10_bestRun 145 = .ok (.imul, 1) := by decide +kernel
theorem dX10_bestRun_146 : decode cX10_bestRun 146 = .ok (.iload_n 2, 1) := by decide +kernel
theorem dX10_bestRun_147 : decode cX10_bestRun 147 = .ok (.iadd, 1) := by decide +kernel
theorem dX10_bestRun_148 : decode cX10_bestRun 148 = .ok (.iaload, 1) := by decide +kernel
theorem dX10_bestRun_149 : decode cX10_bestRun 149 = .ok (.aload_n 0, 1) := by decide +kernel
theorem dX10_bestRun_150 : decode cX10_bestRun 150 = .ok (.getfield 96, 3) := by decide +kernel
theorem dX10_bestRun_153 : decode cX10_bestRun 153 = .ok (.sipush 401, 3) := by decide +kernel
theorem dX10_bestRun_156 : decode cX10_bestRun 156 = .ok (.iload 4, 2) := by decide +kernel
theorem dX10_bestRun_158 : decode cX10_bestRun 158 = .ok (.imul, 1) := by decide +kernel
theorem dX10_bestRun_159 : decode cX10_bestRun 159 = .ok (.iload_n 2, 1) := by decide +kernel
theorem dX10_bestRun_160 : decode cX10_bestRun 160 = .ok (.iadd, 1) := by decide +kernel
theorem dX10_bestRun_161 : decode cX10_bestRun 161 = .ok (.iaload, 1) := by decide +kernel
theorem dX10_bestRun_162 : decode cX10_bestRun 162 = .ok (.iadd, 1) := by decide +kernel
theorem dX10_bestRun_163 : decode cX10_bestRun 163 = .ok (.istore 5, 2) := by decide +kernel
theorem dX10_bestRun_165 : decode cX10_bestRun 165 = .ok (.iload_n 1, 1) := by decide +kernel
theorem dX10_bestRun_166 : decode cX10_bestRun 166 = .ok (.iconst (-1), 1) := by decide +kernel
theorem dX10_bestRun_167 : decode cX10_bestRun 167 = .ok (.if_icmp .eq 9, 3) := by decide +kernel
theorem dX10_bestRun_170 : decode cX10_bestRun 170 = .ok (.iload 5, 2) := by decide +kernel
theorem dX10_bestRun_172 : decode cX10_bestRun 172 = .ok (.iload_n 1, 1) := by decide +kernel
theorem dX10_bestRun_173 : decode cX10_bestRun 173 = .ok (.if_icmp .ge 22, 3) := by decide +kernel
theorem dX10_bestRun_176 : decode cX10_bestRun 176 = .ok (.iload 5, 2) := by decide +kernel
theorem dX10_bestRun_178 : decode cX10_bestRun 178 = .ok (.istore_n 1, 1) := by decide +kernel
theorem dX10_bestRun_179 : decode cX10_bestRun 179 = .ok (.aload_n 0, 1) := by decide +kernel
theorem dX10_bestRun_180 : decode cX10_bestRun 180 = .ok (.iload_n 2, 1) := by decide +kernel
theorem dX10_bestRun_181 : decode cX10_bestRun 181 = .ok (.putfield 38, 3) := by decide +kernel
theorem dX10_bestRun_184 : decode cX10_bestRun 184 = .ok (.aload_n 0, 1) := by decide +kernel
theorem dX10_bestRun_185 : decode cX10_bestRun 185 = .ok (.iload_n 3, 1) := by decide +kernel
theorem dX10_bestRun_186 : decode cX10_bestRun 186 = .ok (.putfield 41, 3) := by decide +kernel
theorem dX10_bestRun_189 : decode cX10_bestRun 189 = .ok (.aload_n 0, 1) := by decide +kernel
theorem dX10_bestRun_190 : decode cX10_bestRun 190 = .ok (.iload 4, 2) := by decide +kernel
theorem dX10_bestRun_192 : decode cX10_bestRun 192 = .ok (.putfield 44, 3) := by decide +kernel
theorem dX10_bestRun_195 : decode cX10_bestRun 195 = .ok (.iinc 4 1, 3) := by decide +kernel
theorem dX10_bestRun_198 : decode cX10_bestRun 198 = .ok (.goto (-123), 3) := by decide +kernel
theorem dX10_bestRun_201 : decode cX10_bestRun 201 = .ok (.iinc 3 1, 3) := by decide +kernel
theorem dX10_bestRun_204 : decode cX10_bestRun 204 = .ok (.goto (-140), 3) := by decide +kernel
theorem dX10_bestRun_207 : decode cX10_bestRun 207 = .ok (.iinc 2 1, 3) := by decide +kernel
theorem dX10_bestRun_210 : decode cX10_bestRun 210 = .ok (.goto (-156), 3) := by decide +kernel
theorem dX10_bestRun_213 : decode cX10_bestRun 213 = .ok (.iload_n 1, 1) := by decide +kernel
theorem dX10_bestRun_214 : decode cX10_bestRun 214 = .ok (.ireturn, 1) := by decide +kernel
theorem dX10_chosen_0 : decode cX10_chosen 0 = .ok (.aload_n 0, 1) := by decide +kernel
theorem dX10_chosen_1 : decode cX10_chosen 1 = .ok (.iload_n 1, 1) := by decide +kernel
theorem dX10_chosen_2 : decode cX10_chosen 2 = .ok (.ifCond .lt 8, 3) := by decide +kernel
theorem dX10_chosen_5 : decode cX10_chosen 5 = .ok (.iload_n 1, 1) := by decide +kernel
theorem dX10_chosen_6 : decode cX10_chosen 6 = .ok (.iconst 2, 1) := by decide +kernel
theorem dX10_chosen_7 : decode cX10_chosen 7 = .ok (.if_icmp .le 7, 3) := by decide +kernel
theorem dX10_chosen_10 : decode cX10_chosen 10 = .ok (.iconst 1, 1) := by decide +kernel
theorem dX10_chosen_11 : decode cX10_chosen 11 = .ok (.goto 4, 3) := by decide +kernel
theorem dX10_chosen_14 : decode cX10_chosen 14 = .ok (.iconst 0, 1) := by decide +kernel
theorem dX10_chosen_15 : decode cX10_chosen 15 = .ok (.invokevirtual 105, 3) := by decide +kernel
theorem dX10_chosen_18 : decode cX10_chosen 18 = .ok (.ifCond .eq 5, 3) := by decide +kernel
theorem dX10_chosen_21 : decode cX10_chosen 21 = .ok (.iconst 0, 1) := by decide +kernel
theorem dX10_chosen_22 : decode cX10_chosen 22 = .ok (.ireturn, 1) := by decide +kernel
theorem dX10_chosen_23 : decode cX10_chosen 23 = .ok (.iload_n 1, 1) := by decide +kernel
theorem dX10_chosen_24 : decode cX10_chosen 24 = .ok (.ifCond .ne 10, 3) := by decide +kernel
theorem dX10_chosen_27 : decode cX10_chosen 27 = .ok (.aload_n 0, 1) := by decide +kernel
theorem dX10_chosen_28 : decode cX10_chosen 28 = .ok (.getfield 38, 3) := by decide +kernel
theorem dX10_chosen_31 : decode cX10_chosen 31 = .ok (.goto 19, 3) := by decide +kernel
theorem dX10_chosen_34 : decode cX10_chosen 34 = .ok (.iload_n 1, 1) := by decide +kernel
theorem dX10_chosen_35 : decode cX10_chosen 35 = .ok (.iconst 1, 1) := by decide +kernel
theorem dX10_chosen_36 : decode cX10_chosen 36 = .ok (.if_icmp .ne 10, 3) := by decide +kernel
theorem dX10_chosen_39 : decode cX10_chosen 39 = .ok (.aload_n 0, 1) := by decide +kernel
theorem dX10_chosen_40 : decode cX10_chosen 40 = .ok (.getfield 41, 3) := by decide +kernel
theorem dX10_chosen_43 : decode cX10_chosen 43 = .ok (.goto 7, 3) := by decide +kernel
theorem dX10_chosen_46 : decode cX10_chosen 46 = .ok (.aload_n 0, 1) := by decide +kernel
theorem dX10_chosen_47 : decode cX10_chosen 47 = .ok (.getfield 44, 3) := by decide +kernel
theorem dX10_chosen_50 : decode cX10_chosen 50 = .ok (.ireturn, 1) := by decide +kernel
theorem dX10_feed_0 : decode cX10_feed 0 = .ok (.aload_n 0, 1) := by decide +kernel
theorem dX10_feed_1 : decode cX10_feed 1 = .ok (.aload_n 0, 1) := by decide +kernel
theorem dX10_feed_2 : decode cX10_feed 2 = .ok (.getfield 168, 3) := by decide +kernel
theorem dX10_feed_5 : decode cX10_feed 5 = .ok (.iconst 4, 1) := by decide +kernel
theorem dX10_feed_6 : decode cX10_feed 6 = .ok (.iadd, 1) := by decide +kernel
theorem dX10_feed_7 : decode cX10_feed 7 = .ok (.sipush 8000, 3) := by decide +kernel
theorem dX10_feed_10 : decode cX10_feed 10 = .ok (.if_icmp .le 7, 3) := by decide +kernel
theorem dX10_feed_13 : decode cX10_feed 13 = .ok (.iconst 1, 1) := by decide +kernel
theorem dX10_feed_14 : decode cX10_feed 14 = .ok (.goto 4, 3) := by decide +kernel
theorem dX10_feed_17 : decode cX10_feed 17 = .ok (.iconst 0, 1) := by decide +kernel
theorem dX10_feed_18 : decode cX10_feed 18 = .ok (.invokevirtual 105, 3) := by decide +kernel
theorem dX10_feed_21 : decode cX10_feed 21 = .ok (.ifCond .eq 5, 3) := by decide +kernel
theorem dX10_feed_24 : decode cX10_feed 24 = .ok (.iconst 0, 1) := by decide +kernel
theorem dX10_feed_25 : decode cX10_feed 25 = .ok (.ireturn, 1) := by decide +kernel
theorem dX10_feed_26 : decode cX10_feed 26 = .ok (.bipush 24, 2) := by decide +kernel
theorem dX10_feed_28 : decode cX10_feed 28 = .ok (.istore_n 2, 1) := by decide +kernel
theorem dX10_feed_29 : decode cX10_feed 29 = .ok (.iload_n 2, 1) := by decide +kernel
theorem dX10_feed_30 : decode cX10_feed 30 = .ok (.ifCond .lt 35, 3) := by decide +kernel
theorem dX10_feed_33 : decode cX10_feed 33 = .ok (.aload_n 0, 1) := by decide +kernel
theorem dX10_feed_34 : decode cX10_feed 34 = .ok (.getfield 31, 3) := by decide +kernel
theorem dX10_feed_37 : decode cX10_feed 37 = .ok (.aload_n 0, 1) := by decide +kernel
theorem dX10_feed_38 : decode cX10_feed 38 = .ok (.getfield 168, 3) := by decide +kernel
theorem dX10_feed_41 : decode cX10_feed 41 = .ok (.iload_n 1, 1) := by decide +kernel
theorem dX10_feed_42 : decode cX10_feed 42 = .ok (.iload_n 2, 1) := by decide +kernel
theorem dX10_feed_43 : decode cX10_feed 43 = .ok (.ishr, 1) := by decide +kernel
theorem dX10_feed_44 : decode cX10_feed 44 = .ok (.sipush 255, 3) := by decide +kernel
theorem dX10_feed_47 : decode cX10_feed 47 = .ok (.iand, 1) := by decide +kernel
theorem dX10_feed_48 : decode cX10_feed 48 = .ok (.iastore, 1) := by decide +kernel
theorem dX10_feed_49 : decode cX10_feed 49 = .ok (.aload_n 0, 1) := by decide +kernel
theorem dX10_feed_50 : decode cX10_feed 50 = .ok (.dup, 1) := by decide +kernel
theorem dX10_feed_51 : decode cX10_feed 51 = .ok (.getfield 168, 3) := by decide +kernel
theorem dX10_feed_54 : decode cX10_feed 54 = .ok (.iconst 1, 1) := by decide +kernel
theorem dX10_feed_55 : decode cX10_feed 55 = .ok (.iadd, 1) := by decide +kernel
theorem dX10_feed_56 : decode cX10_feed 56 = .ok (.putfield 168, 3) := by decide +kernel
theorem dX10_feed_59 : decode cX10_feed 59 = .ok (.iinc 2 (-8), 3) := by decide +kernel
theorem dX10_feed_62 : decode cX10_feed 62 = .ok (.goto (-33), 3) := by decide +kernel
theorem dX10_feed_65 : decode cX10_feed 65 = .ok (.aload_n 0, 1) := by decide +kernel
theorem dX10_feed_66 : decode cX10_feed 66 = .ok (.getfield 168, 3) := by decide +kernel
theorem dX10_feed_69 : decode cX10_feed 69 = .ok (.ireturn, 1) := by decide +kernel
theorem dX10_end_0 : decode cX10_end 0 = .ok (.aload_n 0, 1) := by decide +kernel
theorem dX10_end_1 : decode cX10_end 1 = .ok (.iload_n 1, 1) := by decide +kernel
theorem dX10_end_2 : decode cX10_end 2 = .ok (.ifCond .lt 11, 3) := by decide +kernel
theorem dX10_end_5 : decode cX10_end 5 = .ok (.iload_n 1, 1) := by decide +kernel
theorem dX10_end_6 : decode cX10_end 6 = .ok (.aload_n 0, 1) := by decide +kernel
theorem dX10_end_7 : decode cX10_end 7 = .ok (.getfield 168, 3) := by decide +kernel
theorem dX10_end_10 : decode cX10_end 10 = .ok (.if_icmp .le 7, 3) := by decide +kernel
theorem dX10_end_13 : decode cX10_end 13 = .ok (.iconst 1, 1) := by decide +kernel
theorem dX10_end_14 : decode cX10_end 14 = .ok (.goto 4, 3) := by decide +kernel
theorem dX10_end_17 : decode cX10_end 17 = .ok (.iconst 0, 1) := by decide +kernel
theorem dX10_end_18 : decode cX10_end 18 = .ok (.invokevirtual 105, 3) := by decide +kernel
theorem dX10_end_21 : decode cX10_end 21 = .ok (.ifCond .eq 4, 3) := by decide +kernel
theorem dX10_end_24 : decode cX10_end 24 = .ok (.return_, 1) := by decide +kernel
theorem dX10_end_25 : decode cX10_end 25 = .ok (.aload_n 0, 1) := by decide +kernel
theorem dX10_end_26 : decode cX10_end 26 = .ok (.iload_n 1, 1) := by decide +kernel
theorem dX10_end_27 : decode cX10_end 27 = .ok (.putfield 168, 3) := by decide +kernel
theorem dX10_end_30 : decode cX10_end 30 = .ok (.aload_n 0, 1) := by decide +kernel
theorem dX10_end_31 : decode cX10_end 31 = .ok (.aload_n 0, 1) := by decide +kernel
theorem dX10_end_32 : decode cX10_end 32 = .ok (.getfield 186, 3) := by decide +kernel
theorem dX10_end_35 : decode cX10_end 35 = .ok (.iload_n 1, 1) := by decide +kernel
theorem dX10_end_36 : decode cX10_end 36 = .ok (.if_icmp .le 7, 3) := by decide +kernel
theorem dX10_end_39 : decode cX10_end 39 = .ok (.iload_n 1, 1) := by decide +kernel
theorem dX10_end_40 : decode cX10_end 40 = .ok (.goto 7, 3) := by decide +kernel
theorem dX10_end_43 : decode cX10_end 43 = .ok (.aload_n 0, 1) := by decide +kernel
theorem dX10_end_44 : decode cX10_end 44 = .ok (.getfield 186, 3) := by decide +kernel
theorem dX10_end_47 : decode cX10_end 47 = .ok (.putfield 186, 3) := by decide +kernel
theorem dX10_end_50 : decode cX10_end 50 = .ok (.return_, 1) := by decide +kernel
theorem dX10_seek_0 : decode cX10_seek 0 = .ok (.aload_n 0, 1) := by decide +kernel
theorem dX10_seek_1 : decode cX10_seek 1 = .ok (.iload_n 1, 1) := by decide +kernel
theorem dX10_seek_2 : decode cX10_seek 2 = .ok (.ifCond .lt 11, 3) := by decide +kernel
theorem dX10_seek_5 : decode cX10_seek 5 = .ok (.iload_n 1, 1) := by decide +kernel
theorem dX10_seek_6 : decode cX10_seek 6 = .ok (.aload_n 0, 1) := by decide +kernel
theorem dX10_seek_7 : decode cX10_seek 7 = .ok (.getfield 168, 3) := by decide +kernel
theorem dX10_seek_10 : decode cX10_seek 10 = .ok (.if_icmp .le 7, 3) := by decide +kernel
theorem dX10_seek_13 : decode cX10_seek 13 = .ok (.iconst 1, 1) := by decide +kernel
theorem dX10_seek_14 : decode cX10_seek 14 = .ok (.goto 4, 3) := by decide +kernel
theorem dX10_seek_17 : decode cX10_seek 17 = .ok (.iconst 0, 1) := by decide +kernel
theorem dX10_seek_18 : decode cX10_seek 18 = .ok (.invokevirtual 105, 3) := by decide +kernel
theorem dX10_seek_21 : decode cX10_seek 21 = .ok (.ifCond .eq 5, 3) := by decide +kernel
theorem dX10_seek_24 : decode cX10_seek 24 = .ok (.iconst 0, 1) := by decide +kernel
theorem dX10_seek_25 : decode cX10_seek 25 = .ok (.ireturn, 1) := by decide +kernel
theorem dX10_seek_26 : decode cX10_seek 26 = .ok (.aload_n 0, 1) := by decide +kernel
theorem dX10_seek_27 : decode cX10_seek 27 = .ok (.getfield 186, 3) := by decide +kernel
theorem dX10_seek_30 : decode cX10_seek 30 = .ok (.istore_n 2, 1) := by decide +kernel
theorem dX10_seek_31 : decode cX10_seek 31 = .ok (.aload_n 0, 1) := by decide +kernel
theorem dX10_seek_32 : decode cX10_seek 32 = .ok (.iload_n 1, 1) := by decide +kernel
theorem dX10_seek_33 : decode cX10_seek 33 = .ok (.putfield 186, 3) := by decide +kernel
theorem dX10_seek_36 : decode cX10_seek 36 = .ok (.iload_n 2, 1) := by decide +kernel
theorem dX10_seek_37 : decode cX10_seek 37 = .ok (.ireturn, 1) := by decide +kernel
theorem dX10_tape_0 : decode cX10_tape 0 = .ok (.aload_n 0, 1) := by decide +kernel
theorem dX10_tape_1 : decode cX10_tape 1 = .ok (.iconst 0, 1) := by decide +kernel
theorem dX10_tape_2 : decode cX10_tape 2 = .ok (.putfield 99, 3) := by decide +kernel
theorem dX10_tape_5 : decode cX10_tape 5 = .ok (.iload_n 1, 1) := by decide +kernel
theorem dX10_tape_6 : decode cX10_tape 6 = .ok (.ifCond .lt 20, 3) := by decide +kernel
theorem dX10_tape_9 : decode cX10_tape 9 = .ok (.iload_n 1, 1) := by decide +kernel
theorem dX10_tape_10 : decode cX10_tape 10 = .ok (.aload_n 0, 1) := by decide +kernel
theorem dX10_tape_11 : decode cX10_tape 11 = .ok (.getfield 168, 3) := by decide +kernel
theorem dX10_tape_14 : decode cX10_tape 14 = .ok (.if_icmp .ge 12, 3) := by decide +kernel
theorem dX10_tape_17 : decode cX10_tape 17 = .ok (.aload_n 0, 1) := by decide +kernel
theorem dX10_tape_18 : decode cX10_tape 18 = .ok (.getfield 31, 3) := by decide +kernel
theorem dX10_tape_21 : decode cX10_tape 21 = .ok (.iload_n 1, 1) := by decide +kernel
theorem dX10_tape_22 : decode cX10_tape 22 = .ok (.iaload, 1) := by decide +kernel
theorem dX10_tape_23 : decode cX10_tape 23 = .ok (.goto 4, 3) := by decide +kernel
theorem dX10_tape_26 : decode cX10_tape 26 = .ok (.iconst (-1), 1) := by decide +kernel
theorem dX10_tape_27 : decode cX10_tape 27 = .ok (.ireturn, 1) := by decide +kernel
theorem dX10_way_0 : decode cX10_way 0 = .ok (.aload_n 0, 1) := by decide +kernel
theorem dX10_way_1 : decode cX10_way 1 = .ok (.aload_n 0, 1) := by decide +kernel
theorem dX10_way_2 : decode cX10_way 2 = .ok (.iload_n 1, 1) := by decide +kernel
theorem dX10_way_3 : decode cX10_way 3 = .ok (.invokevirtual 113, 3) := by decide +kernel
theorem dX10_way_6 : decode cX10_way 6 = .ok (.ifCond .eq 12, 3) := by decide +kernel
theorem dX10_way_9 : decode cX10_way 9 = .ok (.iload_n 2, 1) := by decide +kernel
theorem dX10_way_10 : decode cX10_way 10 = .ok (.ifCond .lt 8, 3) := by decide +kernel
theorem dX10_way_13 : decode cX10_way 13 = .ok (.iload_n 2, 1) := by decide +kernel
theorem dX10_way_14 : decode cX10_way 14 = .ok (.iconst 4, 1) := by decide +kernel
theorem dX10_way_15 : decode cX10_way 15 = .ok (.if_icmp .le 7, 3) := by decide +kernel
theorem dX10_way_18 : decode cX10_way 18 = .ok (.iconst 1, 1) := by decide +kernel
theorem dX10_way_19 : decode cX10_way 19 = .ok (.goto 4, 3) := by decide +kernel
theorem dX10_way_22 : decode cX10_way 22 = .ok (.iconst 0, 1) := by decide +kernel
theorem dX10_way_23 : decode cX10_way 23 = .ok (.invokevirtual 105, 3) := by decide +kernel
theorem dX10_way_26 : decode cX10_way 26 = .ok (.ifCond .eq 5, 3) := by decide +kernel
theorem dX10_way_29 : decode cX10_way 29 = .ok (.iconst 0, 1) := by decide +kernel
theorem dX10_way_30 : decode cX10_way 30 = .ok (.ireturn, 1) := by decide +kernel
theorem dX10_way_31 : decode cX10_way 31 = .ok (.iload_n 2, 1) := by decide +kernel
theorem dX10_way_32 : decode cX10_way 32 = .ok (.iconst 4, 1) := by decide +kernel
theorem dX10_way_33 : decode cX10_way 33 = .ok (.if_icmp .ne 10, 3) := by decide +kernel
theorem dX10_way_36 : decode cX10_way 36 = .ok (.aload_n 0, 1) := by decide +kernel
theorem dX10_way_37 : decode cX10_way 37 = .ok (.getfield 25, 3) := by decide +kernel
theorem dX10_way_40 : decode cX10_way 40 = .ok (.iload_n 1, 1) := by decide +kernel
theorem dX10_way_41 : decode cX10_way 41 = .ok (.iaload, 1) := by decide +kernel
theorem dX10_way_42 : decode cX10_way 42 = .ok (.ireturn, 1) := by decide +kernel
theorem dX10_way_43 : decode cX10_way 43 = .ok (.aload_n 0, 1) := by decide +kernel
theorem dX10_way_44 : decode cX10_way 44 = .ok (.getfield 7, 3) := by decide +kernel
theorem dX10_way_47 : decode cX10_way 47 = .ok (.iload_n 1, 1) := by decide +kernel
theorem dX10_way_48 : decode cX10_way 48 = .ok (.iaload, 1) := by decide +kernel
theorem dX10_way_49 : decode cX10_way 49 = .ok (.ifCond .eq 5, 3) := by decide +kernel
theorem dX10_way_52 : decode cX10_way 52 = .ok (.iconst (-1), 1) := by decide +kernel
theorem dX10_way_53 : decode cX10_way 53 = .ok (.ireturn, 1) := by decide +kernel
theorem dX10_way_54 : decode cX10_way 54 = .ok (.iload_n 2, 1) := by decide +kernel
theorem dX10_way_55 : decode cX10_way 55 = .ok (.ifCond .ne 12, 3) := by decide +kernel
theorem dX10_way_58 : decode cX10_way 58 = .ok (.aload_n 0, 1) := by decide +kernel
theorem dX10_way_59 : decode cX10_way 59 = .ok (.getfield 13, 3) := by decide +kernel
theorem dX10_way_62 : decode cX10_way 62 = .ok (.iload_n 1, 1) := by decide +kernel
theorem dX10_way_63 : decode cX10_way 63 = .ok (.iaload, 1) := by decide +kernel
theorem dX10_way_64 : decode cX10_way 64 = .ok (.goto 37, 3) := by decide +kernel
theorem dX10_way_67 : decode cX10_way 67 = .ok (.iload_n 2, 1) := by decide +kernel
theorem dX10_way_68 : decode cX10_way 68 = .ok (.iconst 1, 1) := by decide +kernel
theorem dX10_way_69 : decode cX10_way 69 = .ok (.if_icmp .ne 12, 3) := by decide +kernel
theorem dX10_way_72 : decode cX10_way 72 = .ok (.aload_n 0, 1) := by decide +kernel
theorem dX10_way_73 : decode cX10_way 73 = .ok (.getfield 16, 3) := by decide +kernel
theorem dX10_way_76 : decode cX10_way 76 = .ok (.iload_n 1, 1) := by decide +kernel
theorem dX10_way_77 : decode cX10_way 77 = .ok (.iaload, 1) := by decide +kernel
theorem dX10_way_78 : decode cX10_way 78 = .ok (.goto 23, 3) := by decide +kernel
theorem dX10_way_81 : decode cX10_way 81 = .ok (.iload_n 2, 1) := by decide +kernel
theorem dX10_way_82 : decode cX10_way 82 = .ok (.iconst 2, 1) := by decide +kernel
theorem dX10_way_83 : decode cX10_way 83 = .ok (.if_icmp .ne 12, 3) := by decide +kernel
theorem dX10_way_86 : decode cX10_way 86 = .ok (.aload_n 0, 1) := by decide +kernel
theorem dX10_way_87 : decode cX10_way 87 = .ok (.getfield 19, 3) := by decide +kernel
theorem dX10_way_90 : decode cX10_way 90 = .ok (.iload_n 1, 1) := by decide +kernel
theorem dX10_way_91 : decode cX10_way 91 = .ok (.iaload, 1) := by decide +kernel
theorem dX10_way_92 : decode cX10_way 92 = .ok (.goto 9, 3) := by decide +kernel
theorem dX10_way_95 : decode cX10_way 95 = .ok (.aload_n 0, 1) := by decide +kernel
theorem dX10_way_96 : decode cX10_way 96 = .ok (.getfield 22, 3) := by decide +kernel
theorem dX10_way_99 : decode cX10_way 99 = .ok (.iload_n 1, 1) := by decide +kernel
theorem dX10_way_100 : decode cX10_way 100 = .ok (.iaload, 1) := by decide +kernel
theorem dX10_way_101 : decode cX10_way 101 = .ok (.ireturn, 1) := by decide +kernel
theorem dX10_about_0 : decode cX10_about 0 = .ok (.aload_n 0, 1) := by decide +kernel
theorem dX10_about_1 : decode cX10_about 1 = .ok (.iload_n 1, 1) := by decide +kernel
theorem dX10_about_2 : decode cX10_about 2 = .ok (.ifCond .lt 8, 3) := by decide +kernel
theorem dX10_about_5 : decode cX10_about 5 = .ok (.iload_n 1, 1) := by decide +kernel
theorem dX10_about_6 : decode cX10_about 6 = .ok (.iconst 3, 1) := by decide +kernel
theorem dX10_about_7 : decode cX10_about 7 = .ok (.if_icmp .le 7, 3) := by decide +kernel
theorem dX10_about_10 : decode cX10_about 10 = .ok (.iconst 1, 1) := by decide +kernel
theorem dX10_about_11 : decode cX10_about 11 = .ok (.goto 4, 3) := by decide +kernel
theorem dX10_about_14 : decode cX10_about 14 = .ok (.iconst 0, 1) := by decide +kernel
theorem dX10_about_15 : decode cX10_about 15 = .ok (.invokevirtual 105, 3) := by decide +kernel
theorem dX10_about_18 : decode cX10_about 18 = .ok (.ifCond .eq 5, 3) := by decide +kernel
theorem dX10_about_21 : decode cX10_about 21 = .ok (.iconst 0, 1) := by decide +kernel
theorem dX10_about_22 : decode cX10_about 22 = .ok (.ireturn, 1) := by decide +kernel
theorem dX10_about_23 : decode cX10_about 23 = .ok (.iload_n 1, 1) := by decide +kernel
theorem dX10_about_24 : decode cX10_about 24 = .ok (.ifCond .ne 10, 3) := by decide +kernel
theorem dX10_about_27 : decode cX10_about 27 = .ok (.aload_n 0, 1) := by decide +kernel
theorem dX10_about_28 : decode cX10_about 28 = .ok (.getfield 102, 3) := by decide +kernel
theorem dX10_about_31 : decode cX10_about 31 = .ok (.goto 31, 3) := by decide +kernel
theorem dX10_about_34 : decode cX10_about 34 = .ok (.iload_n 1, 1) := by decide +kernel
theorem dX10_about_35 : decode cX10_about 35 = .ok (.iconst 1, 1) := by decide +kernel
theorem dX10_about_36 : decode cX10_about 36 = .ok (.if_icmp .ne 10, 3) := by decide +kernel
theorem dX10_about_39 : decode cX10_about 39 = .ok (.aload_n 0, 1) := by decide +kernel
theorem dX10_about_40 : decode cX10_about 40 = .ok (.getfield 120, 3) := by decide +kernel
theorem dX10_about_43 : decode cX10_about 43 = .ok (.goto 19, 3) := by decide +kernel
theorem dX10_about_46 : decode cX10_about 46 = .ok (.iload_n 1, 1) := by decide +kernel
theorem dX10_about_47 : decode cX10_about 47 = .ok (.iconst 2, 1) := by decide +kernel
theorem dX10_about_48 : decode cX10_about 48 = .ok (.if_icmp .ne 10, 3) := by decide +kernel
theorem dX10_about_51 : decode cX10_about 51 = .ok (.aload_n 0, 1) := by decide +kernel
theorem dX10_about_52 : decode cX10_about 52 = .ok (.getfield 168, 3) := by decide +kernel
theorem dX10_about_55 : decode cX10_about 55 = .ok (.goto 7, 3) := by decide +kernel
theorem dX10_about_58 : decode cX10_about 58 = .ok (.aload_n 0, 1) := by decide +kernel
theorem dX10_about_59 : decode cX10_about 59 = .ok (.getfield 186, 3) := by decide +kernel
theorem dX10_about_62 : decode cX10_about 62 = .ok (.ireturn, 1) := by decide +kernel
theorem dJ9_max_7cf53_0 : decode cJ9_max_7cf53 0 = .ok (.iload_n 0, 1) := by decide +kernel
theorem dJ9_max_7cf53_1 : decode cJ9_max_7cf53 1 = .ok (.iload_n 1, 1) := by decide +kernel
theorem dJ9_max_7cf53_2 : decode cJ9_max_7cf53 2 = .ok (.if_icmp .lt 7, 3) := by decide +kernel
theorem dJ9_max_7cf53_5 : decode cJ9_max_7cf53 5 = .ok (.iload_n 0, 1) := by decide +kernel
theorem dJ9_max_7cf53_6 : decode cJ9_max_7cf53 6 = .ok (.goto 4, 3) := by decide +kernel
theorem dJ9_max_7cf53_9 : decode cJ9_max_7cf53 9 = .ok (.iload_n 1, 1) := by decide +kernel
theorem dJ9_max_7cf53_10 : decode cJ9_max_7cf53 10 = .ok (.ireturn, 1) := by decide +kernel
theorem dJ9_min_7cf53_0 : decode cJ9_min_7cf53 0 = .ok (.iload_n 0, 1) := by decide +kernel
theorem dJ9_min_7cf53_1 : decode cJ9_min_7cf53 1 = .ok (.iload_n 1, 1) := by decide +kernel
theorem dJ9_min_7cf53_2 : decode cJ9_min_7cf53 2 = .ok (.if_icmp .gt 7, 3) := by decide +kernel
theorem dJ9_min_7cf53_5 : decode cJ9_min_7cf53 5 = .ok (.iload_n 0, 1) := by decide +kernel
theorem dJ9_min_7cf53_6 : decode cJ9_min_7cf53 6 = .ok (.goto 4, 3) := by decide +kernel
theorem dJ9_min_7cf53_9 : decode cJ9_min_7cf53 9 = .ok (.iload_n 1, 1) := by decide +kernel
theorem dJ9_min_7cf53_10 : decode cJ9_min_7cf53 10 = .ok (.ireturn, 1) := by decide +kernel
theorem dL_coding_0 : decode cL_coding 0 = .ok (.aload 5, 2) := by decide +kernel
theorem dL_coding_2 : decode cL_coding 2 = .ok (.iconst 0, 1) := by decide +kernel
theorem dL_coding_3 : decode cL_coding 3 = .ok (.aload_n 0, 1) := by decide +kernel
theorem dL_coding_4 : decode cL_coding 4 = .ok (.iload_n 1, 1) := by decide +kernel
theorem dL_coding_5 : decode cL_coding 5 = .ok (.iload_n 2, 1) := by decide +kernel
theorem dL_coding_6 : decode cL_coding 6 = .ok (.iload_n 3, 1) := by decide +kernel
theorem dL_coding_7 : decode cL_coding 7 = .ok (.iload 4, 2) := by decide +kernel
theorem dL_coding_9 : decode cL_coding 9 = .ok (.invokevirtual 7, 3) := by decide +kernel
theorem dL_coding_12 : decode cL_coding 12 = .ok (.i2l, 1) := by decide +kernel
theorem dL_coding_13 : decode cL_coding 13 = .ok (.lastore, 1) := by decide +kernel
theorem dL_coding_14 : decode cL_coding 14 = .ok (.goto 11, 3) := by decide +kernel
theorem dL_coding_17 : decode cL_coding 17 = .ok (.astore 6, 2) := by decide +kernel
theorem dL_coding_19 : decode cL_coding 19 = .ok (.iconst 1, 1) := by decide +kernel
theorem dL_coding_20 : decode cL_coding 20 = .ok (.ireturn, 1) := by decide +kernel
theorem dL_coding_21 : decode cL_coding 21 = .ok (.astore 6, 2) := by decide +kernel
theorem dL_coding_23 : decode cL_coding 23 = .ok (.iconst 2, 1) := by decide +kernel
theorem dL_coding_24 : decode cL_coding 24 = .ok (.ireturn, 1) := by decide +kernel
theorem dL_coding_25 : decode cL_coding 25 = .ok (.iconst 0, 1) := by decide +kernel
theorem dL_coding_26 : decode cL_coding 26 = .ok (.ireturn, 1) := by decide +kernel
theorem dL_run_0 : decode cL_run 0 = .ok (.aload 4, 2) := by decide +kernel
theorem dL_run_2 : decode cL_run 2 = .ok (.iconst 0, 1) := by decide +kernel
theorem dL_run_3 : decode cL_run 3 = .ok (.aload_n 0, 1) := by decide +kernel
theorem dL_run_4 : decode cL_run 4 = .ok (.iload_n 1, 1) := by decide +kernel
theorem dL_run_5 : decode cL_run 5 = .ok (.iload_n 2, 1) := by decide +kernel
theorem dL_run_6 : decode cL_run 6 = .ok (.iload_n 3, 1) := by decide +kernel
theorem dL_run_7 : decode cL_run 7 = .ok (.invokevirtual 17, 3) := by decide +kernel
theorem dL_run_10 : decode cL_run 10 = .ok (.i2l, 1) := by decide +kernel
theorem dL_run_11 : decode cL_run 11 = .ok (.lastore, 1) := by decide +kernel
theorem dL_run_12 : decode cL_run 12 = .ok (.goto 11, 3) := by decide +kernel
theorem dL_run_15 : decode cL_run 15 = .ok (.astore 5, 2) := by decide +kernel
theorem dL_run_17 : decode cL_run 17 = .ok (.iconst 1, 1) := by decide +kernel
theorem dL_run_18 : decode cL_run 18 = .ok (.ireturn, 1) := by decide +kernel
theorem dL_run_19 : decode cL_run 19 = .ok (.astore 5, 2) := by decide +kernel
theorem dL_run_21 : decode cL_run 21 = .ok (.iconst 2, 1) := by decide +kernel
theorem dL_run_22 : decode cL_run 22 = .ok (.ireturn, 1) := by decide +kernel
theorem dL_run_23 : decode cL_run 23 = .ok (.iconst 0, 1) := by decide +kernel
theorem dL_run_24 : decode cL_run 24 = .ok (.ireturn, 1) := by decide +kernel
theorem dL_popular_0 : decode cL_popular 0 = .ok (.aload 5, 2) := by decide +kernel
theorem dL_popular_2 : decode cL_popular 2 = .ok (.iconst 0, 1) := by decide +kernel
theorem dL_popular_3 : decode cL_popular 3 = .ok (.aload_n 0, 1) := by decide +kernel
theorem dL_popular_4 : decode cL_popular 4 = .ok (.iload_n 1, 1) := by decide +kernel
theorem dL_popular_5 : decode cL_popular 5 = .ok (.iload_n 2, 1) := by decide +kernel
theorem dL_popular_6 : decode cL_popular 6 = .ok (.iload_n 3, 1) := by decide +kernel
theorem dL_popular_7 : decode cL_popular 7 = .ok (.iload 4, 2) := by decide +kernel
theorem dL_popular_9 : decode cL_popular 9 = .ok (.invokevirtual 21, 3) := by decide +kernel
theorem dL_popular_12 : decode cL_popular 12 = .ok (.i2l, 1) := by decide +kernel
theorem dL_popular_13 : decode cL_popular 13 = .ok (.lastore, 1) := by decide +kernel
theorem dL_popular_14 : decode cL_popular 14 = .ok (.goto 11, 3) := by decide +kernel
theorem dL_popular_17 : decode cL_popular 17 = .ok (.astore 6, 2) := by decide +kernel
theorem dL_popular_19 : decode cL_popular 19 = .ok (.iconst 1, 1) := by decide +kernel
theorem dL_popular_20 : decode cL_popular 20 = .ok (.ireturn, 1) := by decide +kernel
theorem dL_popular_21 : decode cL_popular 21 = .ok (.astore 6, 2) := by decide +kernel
theorem dL_popular_23 : decode cL_popular 23 = .ok (.iconst 2, 1) := by decide +kernel
theorem dL_popular_24 : decode cL_popular 24 = .ok (.ireturn, 1) := by decide +kernel
theorem dL_popular_25 : decode cL_popular 25 = .ok (.iconst 0, 1) := by decide +kernel
theorem dL_popular_26 : decode cL_popular 26 = .ok (.ireturn, 1) := by decide +kernel
theorem dL_number_0 : decode cL_number 0 = .ok (.aload_n 2, 1) := by decide +kernel
