theorem dX10_pack_41 : decode cX10_pack 41 = .ok (.iadd, 1) := by decide +kernel
theorem dX10_pack_42 : decode cX10_pack 42 = .ok (.sipush 8000, 3) := by decide +kernel
theorem dX10_pack_45 : decode cX10_pack 45 = .ok (.if_icmp .le 7, 3) := by decide +kernel
theorem dX10_pack_48 : decode cX10_pack 48 = .ok (.iconst 2, 1) := by decide +kernel
theorem dX10_pack_49 : decode cX10_pack 49 = .ok (.goto 4, 3) := by decide +kernel
theorem dX10_pack_52 : decode cX10_pack 52 = .ok (.iconst 0, 1) := by decide +kernel
theorem dX10_pack_53 : decode cX10_pack 53 = .ok (.invokevirtual 105, 3) := by decide +kernel
theorem dX10_pack_56 : decode cX10_pack 56 = .ok (.ifCond .eq 5, 3) := by decide +kernel
theorem dX10_pack_59 : decode cX10_pack 59 = .ok (.iconst 0, 1) := by decide +kernel
theorem dX10_pack_60 : decode cX10_pack 60 = .ok (.ireturn, 1) := by decide +kernel
theorem dX10_pack_61 : decode cX10_pack 61 = .ok (.iconst 0, 1) := by decide +kernel
theorem dX10_pack_62 : decode cX10_pack 62 = .ok (.istore_n 2, 1) := by decide +kernel
theorem dX10_pack_63 : decode cX10_pack 63 = .ok (.iload_n 2, 1) := by decide +kernel
theorem dX10_pack_64 : decode cX10_pack 64 = .ok (.aload_n 0, 1) := by decide +kernel
theorem dX10_pack_65 : decode cX10_pack 65 = .ok (.getfield 141, 3) := by decide +kernel
theorem dX10_pack_68 : decode cX10_pack 68 = .ok (.if_icmp .ge 26, 3) := by decide +kernel
theorem dX10_pack_71 : decode cX10_pack 71 = .ok (.aload_n 0, 1) := by decide +kernel
theorem dX10_pack_72 : decode cX10_pack 72 = .ok (.getfield 31, 3) := by decide +kernel
theorem dX10_pack_75 : decode cX10_pack 75 = .ok (.aload_n 0, 1) := by decide +kernel
theorem dX10_pack_76 : decode cX10_pack 76 = .ok (.getfield 168, 3) := by decide +kernel
theorem dX10_pack_79 : decode cX10_pack 79 = .ok (.iload_n 2, 1) := by decide +kernel
theorem dX10_pack_80 : decode cX10_pack 80 = .ok (.iadd, 1) := by decide +kernel
theorem dX10_pack_81 : decode cX10_pack 81 = .ok (.aload_n 0, 1) := by decide +kernel
theorem dX10_pack_82 : decode cX10_pack 82 = .ok (.getfield 63, 3) := by decide +kernel
theorem dX10_pack_85 : decode cX10_pack 85 = .ok (.iload_n 2, 1) := by decide +kernel
theorem dX10_pack_86 : decode cX10_pack 86 = .ok (.iaload, 1) := by decide +kernel
theorem dX10_pack_87 : decode cX10_pack 87 = .ok (.iastore, 1) := by decide +kernel
theorem dX10_pack_88 : decode cX10_pack 88 = .ok (.iinc 2 1, 3) := by decide +kernel
theorem dX10_pack_91 : decode cX10_pack 91 = .ok (.goto (-28), 3) := by decide +kernel
theorem dX10_pack_94 : decode cX10_pack 94 = .ok (.aload_n 0, 1) := by decide +kernel
theorem dX10_pack_95 : decode cX10_pack 95 = .ok (.dup, 1) := by decide +kernel
theorem dX10_pack_96 : decode cX10_pack 96 = .ok (.getfield 168, 3) := by decide +kernel
theorem dX10_pack_99 : decode cX10_pack 99 = .ok (.aload_n 0, 1) := by decide +kernel
theorem dX10_pack_100 : decode cX10_pack 100 = .ok (.getfield 141, 3) := by decide +kernel
theorem dX10_pack_103 : decode cX10_pack 103 = .ok (.iadd, 1) := by decide +kernel
theorem dX10_pack_104 : decode cX10_pack 104 = .ok (.putfield 168, 3) := by decide +kernel
theorem dX10_pack_107 : decode cX10_pack 107 = .ok (.aload_n 0, 1) := by decide +kernel
theorem dX10_pack_108 : decode cX10_pack 108 = .ok (.getfield 141, 3) := by decide +kernel
theorem dX10_pack_111 : decode cX10_pack 111 = .ok (.ireturn, 1) := by decide +kernel
theorem dX10_into_0 : decode cX10_into 0 = .ok (.aload_n 0, 1) := by decide +kernel
theorem dX10_into_1 : decode cX10_into 1 = .ok (.getfield 66, 3) := by decide +kernel
theorem dX10_into_4 : decode cX10_into 4 = .ok (.iload_n 1, 1) := by decide +kernel
theorem dX10_into_5 : decode cX10_into 5 = .ok (.iload_n 2, 1) := by decide +kernel
theorem dX10_into_6 : decode cX10_into 6 = .ok (.iastore, 1) := by decide +kernel
theorem dX10_into_7 : decode cX10_into 7 = .ok (.aload_n 0, 1) := by decide +kernel
theorem dX10_into_8 : decode cX10_into 8 = .ok (.getfield 69, 3) := by decide +kernel
theorem dX10_into_11 : decode cX10_into 11 = .ok (.iload_n 1, 1) := by decide +kernel
theorem dX10_into_12 : decode cX10_into 12 = .ok (.iload_n 3, 1) := by decide +kernel
theorem dX10_into_13 : decode cX10_into 13 = .ok (.iastore, 1) := by decide +kernel
theorem dX10_into_14 : decode cX10_into 14 = .ok (.aload_n 0, 1) := by decide +kernel
theorem dX10_into_15 : decode cX10_into 15 = .ok (.getfield 72, 3) := by decide +kernel
theorem dX10_into_18 : decode cX10_into 18 = .ok (.iload_n 1, 1) := by decide +kernel
theorem dX10_into_19 : decode cX10_into 19 = .ok (.iload 4, 2) := by decide +kernel
theorem dX10_into_21 : decode cX10_into 21 = .ok (.iastore, 1) := by decide +kernel
theorem dX10_into_22 : decode cX10_into 22 = .ok (.aload_n 0, 1) := by decide +kernel
theorem dX10_into_23 : decode cX10_into 23 = .ok (.getfield 75, 3) := by decide +kernel
theorem dX10_into_26 : decode cX10_into 26 = .ok (.iload_n 1, 1) := by decide +kernel
theorem dX10_into_27 : decode cX10_into 27 = .ok (.iconst 0, 1) := by decide +kernel
theorem dX10_into_28 : decode cX10_into 28 = .ok (.iastore, 1) := by decide +kernel
theorem dX10_into_29 : decode cX10_into 29 = .ok (.return_, 1) := by decide +kernel
theorem dX10_room_0 : decode cX10_room 0 = .ok (.aload_n 0, 1) := by decide +kernel
theorem dX10_room_1 : decode cX10_room 1 = .ok (.dup, 1) := by decide +kernel
theorem dX10_room_2 : decode cX10_room 2 = .ok (.getfield 147, 3) := by decide +kernel
theorem dX10_room_5 : decode cX10_room 5 = .ok (.iload_n 1, 1) := by decide +kernel
theorem dX10_room_6 : decode cX10_room 6 = .ok (.iadd, 1) := by decide +kernel
theorem dX10_room_7 : decode cX10_room 7 = .ok (.putfield 147, 3) := by decide +kernel
theorem dX10_room_10 : decode cX10_room 10 = .ok (.aload_n 0, 1) := by decide +kernel
theorem dX10_room_11 : decode cX10_room 11 = .ok (.getfield 147, 3) := by decide +kernel
theorem dX10_room_14 : decode cX10_room 14 = .ok (.iload_n 1, 1) := by decide +kernel
theorem dX10_room_15 : decode cX10_room 15 = .ok (.isub, 1) := by decide +kernel
theorem dX10_room_16 : decode cX10_room 16 = .ok (.ireturn, 1) := by decide +kernel
theorem dX10_fails_0 : decode cX10_fails 0 = .ok (.aload_n 0, 1) := by decide +kernel
theorem dX10_fails_1 : decode cX10_fails 1 = .ok (.iload_n 1, 1) := by decide +kernel
theorem dX10_fails_2 : decode cX10_fails 2 = .ok (.putfield 171, 3) := by decide +kernel
theorem dX10_fails_5 : decode cX10_fails 5 = .ok (.aload_n 0, 1) := by decide +kernel
theorem dX10_fails_6 : decode cX10_fails 6 = .ok (.iload_n 2, 1) := by decide +kernel
theorem dX10_fails_7 : decode cX10_fails 7 = .ok (.putfield 174, 3) := by decide +kernel
theorem dX10_fails_10 : decode cX10_fails 10 = .ok (.return_, 1) := by decide +kernel
set_option maxRecDepth 20000 in
theorem ggX10_readsCodes_X10_fails : GoodIn wsX10_readsCodes wsX10_fails := goodIn_r _ [16, 1, 17, 18, 19, 20, 21, 22, 23, 24, 25, 26, 27, 28, 29, 30, 31, 32, 33, 34, 35, 36, 37, 38, 39, 40, 41, 42, 43, 44, 45, 46, 47, 48, 49, 50, 51, 52, 53, 54, 55, 56, 57] (by decide +kernel) (by decide +kernel)
set_option maxRecDepth 20000 in
theorem gX10_readsCodes_X10_fails : GoodIn wsX10_readsCodes (wsV RX10 180 RX10 yX10_fails wsX10_fails) := goodIn_app (goodIn_of _ (by decide +kernel)) ggX10_readsCodes_X10_fails
theorem dX10_readsCodes_0 : decode cX10_readsCodes 0 = .ok (.iconst 0, 1) := by decide +kernel
theorem dX10_readsCodes_1 : decode cX10_readsCodes 1 = .ok (.istore 4, 2) := by decide +kernel
theorem dX10_readsCodes_3 : decode cX10_readsCodes 3 = .ok (.iconst 0, 1) := by decide +kernel
theorem dX10_readsCodes_4 : decode cX10_readsCodes 4 = .ok (.istore 5, 2) := by decide +kernel
theorem dX10_readsCodes_6 : decode cX10_readsCodes 6 = .ok (.iload 5, 2) := by decide +kernel
theorem dX10_readsCodes_8 : decode cX10_readsCodes 8 = .ok (.iload_n 2, 1) := by decide +kernel
theorem dX10_readsCodes_9 : decode cX10_readsCodes 9 = .ok (.if_icmp .ge 278, 3) := by decide +kernel
theorem dX10_readsCodes_12 : decode cX10_readsCodes 12 = .ok (.aload_n 0, 1) := by decide +kernel
theorem dX10_readsCodes_13 : decode cX10_readsCodes 13 = .ok (.getfield 171, 3) := by decide +kernel
theorem dX10_readsCodes_16 : decode cX10_readsCodes 16 = .ok (.ifCond .ne 271, 3) := by decide +kernel
theorem dX10_readsCodes_19 : decode cX10_readsCodes 19 = .ok (.aload_n 0, 1) := by decide +kernel
theorem dX10_readsCodes_20 : decode cX10_readsCodes 20 = .ok (.getfield 177, 3) := by decide +kernel
theorem dX10_readsCodes_23 : decode cX10_readsCodes 23 = .ok (.istore 6, 2) := by decide +kernel
theorem dX10_readsCodes_25 : decode cX10_readsCodes 25 = .ok (.lconst 0, 1) := by decide +kernel
theorem dX10_readsCodes_26 : decode cX10_readsCodes 26 = .ok (.lstore 7, 2) := by decide +kernel
theorem dX10_readsCodes_28 : decode cX10_readsCodes 28 = .ok (.lconst 1, 1) := by decide +kernel
theorem dX10_readsCodes_29 : decode cX10_readsCodes 29 = .ok (.lstore 9, 2) := by decide +kernel
theorem dX10_readsCodes_31 : decode cX10_readsCodes 31 = .ok (.aload_n 0, 1) := by decide +kernel
theorem dX10_readsCodes_32 : decode cX10_readsCodes 32 = .ok (.getfield 13, 3) := by decide +kernel
theorem dX10_readsCodes_35 : decode cX10_readsCodes 35 = .ok (.iload_n 1, 1) := by decide +kernel
theorem dX10_readsCodes_36 : decode cX10_readsCodes 36 = .ok (.iaload, 1) := by decide +kernel
theorem dX10_readsCodes_37 : decode cX10_readsCodes 37 = .ok (.istore 11, 2) := by decide +kernel
theorem dX10_readsCodes_39 : decode cX10_readsCodes 39 = .ok (.iload 11, 2) := by decide +kernel
theorem dX10_readsCodes_41 : decode cX10_readsCodes 41 = .ok (.ifCond .le 103, 3) := by decide +kernel
theorem dX10_readsCodes_44 : decode cX10_readsCodes 44 = .ok (.aload_n 0, 1) := by decide +kernel
theorem dX10_readsCodes_45 : decode cX10_readsCodes 45 = .ok (.getfield 171, 3) := by decide +kernel
theorem dX10_readsCodes_48 : decode cX10_readsCodes 48 = .ok (.ifCond .ne 96, 3) := by decide +kernel
theorem dX10_readsCodes_51 : decode cX10_readsCodes 51 = .ok (.aload_n 0, 1) := by decide +kernel
theorem dX10_readsCodes_52 : decode cX10_readsCodes 52 = .ok (.getfield 177, 3) := by decide +kernel
theorem dX10_readsCodes_55 : decode cX10_readsCodes 55 = .ok (.aload_n 0, 1) := by decide +kernel
theorem dX10_readsCodes_56 : decode cX10_readsCodes 56 = .ok (.getfield 168, 3) := by decide +kernel
theorem dX10_readsCodes_59 : decode cX10_readsCodes 59 = .ok (.if_icmp .ne 13, 3) := by decide +kernel
theorem dX10_readsCodes_62 : decode cX10_readsCodes 62 = .ok (.aload_n 0, 1) := by decide +kernel
theorem dX10_readsCodes_63 : decode cX10_readsCodes 63 = .ok (.iconst 1, 1) := by decide +kernel
theorem dX10_readsCodes_64 : decode cX10_readsCodes 64 = .ok (.iload 6, 2) := by decide +kernel
theorem dX10_readsCodes_66 : decode cX10_readsCodes 66 = .ok (.invokevirtual 180, 3) := by decide +kernel
theorem dX10_readsCodes_69 : decode cX10_readsCodes 69 = .ok (.goto (-30), 3) := by decide +kernel
theorem dX10_readsCodes_72 : decode cX10_readsCodes 72 = .ok (.aload_n 0, 1) := by decide +kernel
theorem dX10_readsCodes_73 : decode cX10_readsCodes 73 = .ok (.getfield 31, 3) := by decide +kernel
theorem dX10_readsCodes_76 : decode cX10_readsCodes 76 = .ok (.aload_n 0, 1) := by decide +kernel
theorem dX10_readsCodes_77 : decode cX10_readsCodes 77 = .ok (.getfield 177, 3) := by decide +kernel
theorem dX10_readsCodes_80 : decode cX10_readsCodes 80 = .ok (.iaload, 1) := by decide +kernel
theorem dX10_readsCodes_81 : decode cX10_readsCodes 81 = .ok (.istore 12, 2) := by decide +kernel
theorem dX10_readsCodes_83 : decode cX10_readsCodes 83 = .ok (.aload_n 0, 1) := by decide +kernel
theorem dX10_readsCodes_84 : decode cX10_readsCodes 84 = .ok (.dup, 1) := by decide +kernel
theorem dX10_readsCodes_85 : decode cX10_readsCodes 85 = .ok (.getfield 177, 3) := by decide +kernel
theorem dX10_readsCodes_88 : decode cX10_readsCodes 88 = .ok (.iconst 1, 1) := by decide +kernel
theorem dX10_readsCodes_89 : decode cX10_readsCodes 89 = .ok (.iadd, 1) := by decide +kernel
theorem dX10_readsCodes_90 : decode cX10_readsCodes 90 = .ok (.putfield 177, 3) := by decide +kernel
theorem dX10_readsCodes_93 : decode cX10_readsCodes 93 = .ok (.lload 7, 2) := by decide +kernel
theorem dX10_readsCodes_95 : decode cX10_readsCodes 95 = .ok (.iload 12, 2) := by decide +kernel
theorem dX10_readsCodes_97 : decode cX10_readsCodes 97 = .ok (.i2l, 1) := by decide +kernel
theorem dX10_readsCodes_98 : decode cX10_readsCodes 98 = .ok (.lload 9, 2) := by decide +kernel
theorem dX10_readsCodes_100 : decode cX10_readsCodes 100 = .ok (.lmul, 1) := by decide +kernel
theorem dX10_readsCodes_101 : decode cX10_readsCodes 101 = .ok (.ladd, 1) := by decide +kernel
theorem dX10_readsCodes_102 : decode cX10_readsCodes 102 = .ok (.lstore 7, 2) := by decide +kernel
theorem dX10_readsCodes_104 : decode cX10_readsCodes 104 = .ok (.lload 9, 2) := by decide +kernel
theorem dX10_readsCodes_106 : decode cX10_readsCodes 106 = .ok (.aload_n 0, 1) := by decide +kernel
theorem dX10_readsCodes_107 : decode cX10_readsCodes 107 = .ok (.getfield 16, 3) := by decide +kernel
theorem dX10_readsCodes_110 : decode cX10_readsCodes 110 = .ok (.iload_n 1, 1) := by decide +kernel
theorem dX10_readsCodes_111 : decode cX10_readsCodes 111 = .ok (.iaload, 1) := by decide +kernel
theorem dX10_readsCodes_112 : decode cX10_readsCodes 112 = .ok (.i2l, 1) := by decide +kernel
theorem dX10_readsCodes_113 : decode cX10_readsCodes 113 = .ok (.lmul, 1) := by decide +kernel
theorem dX10_readsCodes_114 : decode cX10_readsCodes 114 = .ok (.lstore 9, 2) := by decide +kernel
theorem dX10_readsCodes_116 : decode cX10_readsCodes 116 = .ok (.iload 12, 2) := by decide +kernel
theorem dX10_readsCodes_118 : decode cX10_readsCodes 118 = .ok (.sipush 256, 3) := by decide +kernel
theorem dX10_readsCodes_121 : decode cX10_readsCodes 121 = .ok (.aload_n 0, 1) := by decide +kernel
theorem dX10_readsCodes_122 : decode cX10_readsCodes 122 = .ok (.getfield 16, 3) := by decide +kernel
theorem dX10_readsCodes_125 : decode cX10_readsCodes 125 = .ok (.iload_n 1, 1) := by decide +kernel
theorem dX10_readsCodes_126 : decode cX10_readsCodes 126 = .ok (.iaload, 1) := by decide +kernel
theorem dX10_readsCodes_127 : decode cX10_readsCodes 127 = .ok (.isub, 1) := by decide +kernel
theorem dX10_readsCodes_128 : decode cX10_readsCodes 128 = .ok (.if_icmp .ge 7, 3) := by decide +kernel
theorem dX10_readsCodes_131 : decode cX10_readsCodes 131 = .ok (.iconst 0, 1) := by decide +kernel
theorem dX10_readsCodes_132 : decode cX10_readsCodes 132 = .ok (.goto 7, 3) := by decide +kernel
theorem dX10_readsCodes_135 : decode cX10_readsCodes 135 = .ok (.iload 11, 2) := by decide +kernel
theorem dX10_readsCodes_137 : decode cX10_readsCodes 137 = .ok (.iconst 1, 1) := by decide +kernel
theorem dX10_readsCodes_138 : decode cX10_readsCodes 138 = .ok (.isub, 1) := by decide +kernel
theorem dX10_readsCodes_139 : decode cX10_readsCodes 139 = .ok (.istore 11, 2) := by decide +kernel
theorem dX10_readsCodes_141 : decode cX10_readsCodes 141 = .ok (.goto (-102), 3) := by decide +kernel
theorem dX10_readsCodes_144 : decode cX10_readsCodes 144 = .ok (.aload_n 0, 1) := by decide +kernel
theorem dX10_readsCodes_145 : decode cX10_readsCodes 145 = .ok (.getfield 19, 3) := by decide +kernel
theorem dX10_readsCodes_148 : decode cX10_readsCodes 148 = .ok (.iload_n 1, 1) := by decide +kernel
theorem dX10_readsCodes_149 : decode cX10_readsCodes 149 = .ok (.iaload, 1) := by decide +kernel
theorem dX10_readsCodes_150 : decode cX10_readsCodes 150 = .ok (.istore 12, 2) := by decide +kernel
theorem dX10_readsCodes_152 : decode cX10_readsCodes 152 = .ok (.iload 12, 2) := by decide +kernel
theorem dX10_readsCodes_154 : decode cX10_readsCodes 154 = .ok (.ifCond .le 21, 3) := by decide +kernel
theorem dX10_readsCodes_157 : decode cX10_readsCodes 157 = .ok (.lload 7, 2) := by decide +kernel
theorem dX10_readsCodes_159 : decode cX10_readsCodes 159 = .ok (.lconst 1, 1) := by decide +kernel
theorem dX10_readsCodes_160 : decode cX10_readsCodes 160 = .ok (.ladd, 1) := by decide +kernel
theorem dX10_readsCodes_161 : decode cX10_readsCodes 161 = .ok (.lconst 1, 1) := by decide +kernel
theorem dX10_readsCodes_162 : decode cX10_readsCodes 162 = .ok (.iload 12, 2) := by decide +kernel
theorem dX10_readsCodes_164 : decode cX10_readsCodes 164 = .ok (.lshl, 1) := by decide +kernel
theorem dX10_readsCodes_165 : decode cX10_readsCodes 165 = .ok (.lrem, 1) := by decide +kernel
theorem dX10_readsCodes_166 : decode cX10_readsCodes 166 = .ok (.lconst 0, 1) := by decide +kernel
theorem dX10_readsCodes_167 : decode cX10_readsCodes 167 = .ok (.lcmp, 1) := by decide +kernel
theorem dX10_readsCodes_168 : decode cX10_readsCodes 168 = .ok (.ifCond .ne 7, 3) := by decide +kernel
theorem dX10_readsCodes_171 : decode cX10_readsCodes 171 = .ok (.iconst 1, 1) := by decide +kernel
theorem dX10_readsCodes_172 : decode cX10_readsCodes 172 = .ok (.goto 4, 3) := by decide +kernel
theorem dX10_readsCodes_175 : decode cX10_readsCodes 175 = .ok (.iconst 0, 1) := by decide +kernel
theorem dX10_readsCodes_176 : decode cX10_readsCodes 176 = .ok (.istore 13, 2) := by decide +kernel
theorem dX10_readsCodes_178 : decode cX10_readsCodes 178 = .ok (.iload 13, 2) := by decide +kernel
theorem dX10_readsCodes_180 : decode cX10_readsCodes 180 = .ok (.ifCond .eq 14, 3) := by decide +kernel
theorem dX10_readsCodes_183 : decode cX10_readsCodes 183 = .ok (.lload 7, 2) := by decide +kernel
theorem dX10_readsCodes_185 : decode cX10_readsCodes 185 = .ok (.lconst 1, 1) := by decide +kernel
theorem dX10_readsCodes_186 : decode cX10_readsCodes 186 = .ok (.ladd, 1) := by decide +kernel
theorem dX10_readsCodes_187 : decode cX10_readsCodes 187 = .ok (.iload 12, 2) := by decide +kernel
theorem dX10_readsCodes_189 : decode cX10_readsCodes 189 = .ok (.lshr, 1) := by decide +kernel
theorem dX10_readsCodes_190 : decode cX10_readsCodes 190 = .ok (.lneg, 1) := by decide +kernel
theorem dX10_readsCodes_191 : decode cX10_readsCodes 191 = .ok (.goto 21, 3) := by decide +kernel
theorem dX10_readsCodes_194 : decode cX10_readsCodes 194 = .ok (.iload 12, 2) := by decide +kernel
theorem dX10_readsCodes_196 : decode cX10_readsCodes 196 = .ok (.ifCond .ne 8, 3) := by decide +kernel
theorem dX10_readsCodes_199 : decode cX10_readsCodes 199 = .ok (.lload 7, 2) := by decide +kernel
theorem dX10_readsCodes_201 : decode cX10_readsCodes 201 = .ok (.goto 11, 3) := by decide +kernel
theorem dX10_readsCodes_204 : decode cX10_readsCodes 204 = .ok (.lload 7, 2) := by decide +kernel
theorem dX10_readsCodes_206 : decode cX10_readsCodes 206 = .ok (.lload 7, 2) := by decide +kernel
theorem dX10_readsCodes_208 : decode cX10_readsCodes 208 = .ok (.iload 12, 2) := by decide +kernel
theorem dX10_readsCodes_210 : decode cX10_readsCodes 210 = .ok (.lshr, 1) := by decide +kernel
theorem dX10_readsCodes_211 : decode cX10_readsCodes 211 = .ok (.lsub, 1) := by decide +kernel
theorem dX10_readsCodes_212 : decode cX10_readsCodes 212 = .ok (.lstore 14, 2) := by decide +kernel
theorem dX10_readsCodes_214 : decode cX10_readsCodes 214 = .ok (.aload_n 0, 1) := by decide +kernel
theorem dX10_readsCodes_215 : decode cX10_readsCodes 215 = .ok (.getfield 171, 3) := by decide +kernel
theorem dX10_readsCodes_218 : decode cX10_readsCodes 218 = .ok (.ifCond .ne 28, 3) := by decide +kernel
theorem dX10_readsCodes_221 : decode cX10_readsCodes 221 = .ok (.lload 7, 2) := by decide +kernel
theorem dX10_readsCodes_223 : decode cX10_readsCodes 223 = .ok (.ldc2_w 133, 3) := by decide +kernel
theorem dX10_readsCodes_226 : decode cX10_readsCodes 226 = .ok (.lcmp, 1) := by decide +kernel
theorem dX10_readsCodes_227 : decode cX10_readsCodes 227 = .ok (.ifCond .ge 12, 3) := by decide +kernel
theorem dX10_readsCodes_230 : decode cX10_readsCodes 230 = .ok (.lload 14, 2) := by decide +kernel
theorem dX10_readsCodes_232 : decode cX10_readsCodes 232 = .ok (.ldc2_w 184, 3) := by decide +kernel
theorem dX10_readsCodes_235 : decode cX10_readsCodes 235 = .ok (.lcmp, 1) := by decide +kernel
theorem dX10_readsCodes_236 : decode cX10_readsCodes 236 = .ok (.ifCond .lt 10, 3) := by decide +kernel
theorem dX10_readsCodes_239 : decode cX10_readsCodes 239 = .ok (.aload_n 0, 1) := by decide +kernel
theorem dX10_readsCodes_240 : decode cX10_readsCodes 240 = .ok (.iconst 2, 1) := by decide +kernel
theorem dX10_readsCodes_241 : decode cX10_readsCodes 241 = .ok (.iload 6, 2) := by decide +kernel
theorem dX10_readsCodes_243 : decode cX10_readsCodes 243 = .ok (.invokevirtual 180, 3) := by decide +kernel
theorem dX10_readsCodes_246 : decode cX10_readsCodes 246 = .ok (.aload_n 0, 1) := by decide +kernel
theorem dX10_readsCodes_247 : decode cX10_readsCodes 247 = .ok (.getfield 22, 3) := by decide +kernel
theorem dX10_readsCodes_250 : decode cX10_readsCodes 250 = .ok (.iload_n 1, 1) := by decide +kernel
theorem dX10_readsCodes_251 : decode cX10_readsCodes 251 = .ok (.iaload, 1) := by decide +kernel
theorem dX10_readsCodes_252 : decode cX10_readsCodes 252 = .ok (.iconst 1, 1) := by decide +kernel
theorem dX10_readsCodes_253 : decode cX10_readsCodes 253 = .ok (.if_icmp .ne 12, 3) := by decide +kernel
theorem dX10_readsCodes_256 : decode cX10_readsCodes 256 = .ok (.iload 4, 2) := by decide +kernel
theorem dX10_readsCodes_258 : decode cX10_readsCodes 258 = .ok (.lload 14, 2) := by decide +kernel
theorem dX10_readsCodes_260 : decode cX10_readsCodes 260 = .ok (.l2i, 1) := by decide +kernel
theorem dX10_readsCodes_261 : decode cX10_readsCodes 261 = .ok (.iadd, 1) := by decide +kernel
theorem dX10_readsCodes_262 : decode cX10_readsCodes 262 = .ok (.goto 6, 3) := by decide +kernel
theorem dX10_readsCodes_265 : decode cX10_readsCodes 265 = .ok (.lload 14, 2) := by decide +kernel
theorem dX10_readsCodes_267 : decode cX10_readsCodes 267 = .ok (.l2i, 1) := by decide +kernel
theorem dX10_readsCodes_268 : decode cX10_readsCodes 268 = .ok (.istore 4, 2) := by decide +kernel
theorem dX10_readsCodes_270 : decode cX10_readsCodes 270 = .ok (.aload_n 0, 1) := by decide +kernel
theorem dX10_readsCodes_271 : decode cX10_readsCodes 271 = .ok (.getfield 48, 3) := by decide +kernel
theorem dX10_readsCodes_274 : decode cX10_readsCodes 274 = .ok (.iload_n 3, 1) := by decide +kernel
theorem dX10_readsCodes_275 : decode cX10_readsCodes 275 = .ok (.iload 5, 2) := by decide +kernel
theorem dX10_readsCodes_277 : decode cX10_readsCodes 277 = .ok (.iadd, 1) := by decide +kernel
theorem dX10_readsCodes_278 : decode cX10_readsCodes 278 = .ok (.iload 4, 2) := by decide +kernel
theorem dX10_readsCodes_280 : decode cX10_readsCodes 280 = .ok (.iastore, 1) := by decide +kernel
theorem dX10_readsCodes_281 : decode cX10_readsCodes 281 = .ok (.iinc 5 1, 3) := by decide +kernel
theorem dX10_readsCodes_284 : decode cX10_readsCodes 284 = .ok (.goto (-278), 3) := by decide +kernel
theorem dX10_readsCodes_287 : decode cX10_readsCodes 287 = .ok (.return_, 1) := by decide +kernel
set_option maxRecDepth 20000 in
theorem ggX10_reads_X10_into : GoodIn wsX10_reads wsX10_into := goodIn_r _ [17, 5, 6, 7, 8, 46, 47, 48, 49, 50, 51, 52, 53, 54, 55, 56, 57, 58, 59, 60, 61, 62, 63, 64, 65, 66, 67, 68, 69, 70, 71, 72, 73, 74, 75, 76, 77, 78, 79, 80, 81, 82, 83, 84, 85] (by decide +kernel) (by decide +kernel)
set_option maxRecDepth 20000 in
theorem gX10_reads_X10_into : GoodIn wsX10_reads (wsV RX10 189 RX10 yX10_into wsX10_into) := goodIn_app (goodIn_of _ (by decide +kernel)) ggX10_reads_X10_into
set_option maxRecDepth 20000 in
theorem ggX10_reads_X10_readsCodes : GoodIn wsX10_reads wsX10_readsCodes := goodIn_r _ [21, 4, 3, 10, 22, 23, 11, 12, 24, 25, 26, 27, 28, 29, 30, 16, 31, 32, 46, 47, 48, 49, 50, 51, 52, 53, 54, 55, 56, 57, 58, 59, 60, 61, 62, 63, 64, 65, 66, 67, 68, 69, 70, 71, 72, 73, 74, 75, 76, 77, 78, 79, 80, 81, 82, 83, 84, 85] (by decide +kernel) (by decide +kernel)
set_option maxRecDepth 20000 in
theorem gX10_reads_X10_readsCodes : GoodIn wsX10_reads (wsV RX10 193 RX10 yX10_readsCodes wsX10_readsCodes) := goodIn_app (goodIn_of _ (by decide +kernel)) ggX10_reads_X10_readsCodes
set_option maxRecDepth 20000 in
theorem ggX10_reads_X10_readsPopular : GoodIn wsX10_reads wsX10_readsPopular := goodIn_r _ [36, 5, 6, 27, 37, 38, 3, 11, 10, 39, 40, 12, 41, 26, 7, 42, 43, 44, 16, 45, 1, 13, 14, 15, 17, 8, 28, 29, 30, 31, 4, 32, 46, 47, 48, 49, 50, 51, 52, 53, 54, 55, 56, 57, 58, 59, 60, 61, 62, 63, 64, 65, 66, 67, 68, 69, 70, 71, 72, 73, 74, 75, 76, 77, 78, 79, 80, 81, 82, 83, 84, 85] (by decide +kernel) (by decide +kernel)
set_option maxRecDepth 20000 in
theorem gX10_reads_X10_readsPopular : GoodIn wsX10_reads (wsV RX10 196 RX10 yX10_readsPopular wsX10_readsPopular) := goodIn_app (goodIn_of _ (by decide +kernel)) ggX10_reads_X10_readsPopular
theorem dX10_reads_0 : decode cX10_reads 0 = .ok (.aload_n 0, 1) := by decide +kernel
theorem dX10_reads_1 : decode cX10_reads 1 = .ok (.iload_n 2, 1) := by decide +kernel
theorem dX10_reads_2 : decode cX10_reads 2 = .ok (.putfield 147, 3) := by decide +kernel
theorem dX10_reads_5 : decode cX10_reads 5 = .ok (.aload_n 0, 1) := by decide +kernel
theorem dX10_reads_6 : decode cX10_reads 6 = .ok (.aload_n 0, 1) := by decide +kernel
theorem dX10_reads_7 : decode cX10_reads 7 = .ok (.getfield 186, 3) := by decide +kernel
theorem dX10_reads_10 : decode cX10_reads 10 = .ok (.putfield 177, 3) := by decide +kernel
theorem dX10_reads_13 : decode cX10_reads 13 = .ok (.aload_n 0, 1) := by decide +kernel
theorem dX10_reads_14 : decode cX10_reads 14 = .ok (.iconst 0, 1) := by decide +kernel
theorem dX10_reads_15 : decode cX10_reads 15 = .ok (.putfield 171, 3) := by decide +kernel
theorem dX10_reads_18 : decode cX10_reads 18 = .ok (.iconst 0, 1) := by decide +kernel
theorem dX10_reads_19 : decode cX10_reads 19 = .ok (.istore_n 3, 1) := by decide +kernel
theorem dX10_reads_20 : decode cX10_reads 20 = .ok (.aload_n 0, 1) := by decide +kernel
theorem dX10_reads_21 : decode cX10_reads 21 = .ok (.iconst 0, 1) := by decide +kernel
theorem dX10_reads_22 : decode cX10_reads 22 = .ok (.iload_n 1, 1) := by decide +kernel
theorem dX10_reads_23 : decode cX10_reads 23 = .ok (.iload_n 2, 1) := by decide +kernel
theorem dX10_reads_24 : decode cX10_reads 24 = .ok (.iconst 0, 1) := by decide +kernel
theorem dX10_reads_25 : decode cX10_reads 25 = .ok (.invokevirtual 189, 3) := by decide +kernel
theorem dX10_reads_28 : decode cX10_reads 28 = .ok (.iload_n 3, 1) := by decide +kernel
theorem dX10_reads_29 : decode cX10_reads 29 = .ok (.ifCond .lt 212, 3) := by decide +kernel
theorem dX10_reads_32 : decode cX10_reads 32 = .ok (.aload_n 0, 1) := by decide +kernel
theorem dX10_reads_33 : decode cX10_reads 33 = .ok (.getfield 171, 3) := by decide +kernel
theorem dX10_reads_36 : decode cX10_reads 36 = .ok (.ifCond .ne 205, 3) := by decide +kernel
theorem dX10_reads_39 : decode cX10_reads 39 = .ok (.aload_n 0, 1) := by decide +kernel
theorem dX10_reads_40 : decode cX10_reads 40 = .ok (.getfield 66, 3) := by decide +kernel
theorem dX10_reads_43 : decode cX10_reads 43 = .ok (.iload_n 3, 1) := by decide +kernel
theorem dX10_reads_44 : decode cX10_reads 44 = .ok (.iaload, 1) := by decide +kernel
theorem dX10_reads_45 : decode cX10_reads 45 = .ok (.istore 4, 2) := by decide +kernel
theorem dX10_reads_47 : decode cX10_reads 47 = .ok (.aload_n 0, 1) := by decide +kernel
theorem dX10_reads_48 : decode cX10_reads 48 = .ok (.getfield 69, 3) := by decide +kernel
theorem dX10_reads_51 : decode cX10_reads 51 = .ok (.iload_n 3, 1) := by decide +kernel
theorem dX10_reads_52 : decode cX10_reads 52 = .ok (.iaload, 1) := by decide +kernel
theorem dX10_reads_53 : decode cX10_reads 53 = .ok (.istore 5, 2) := by decide +kernel
theorem dX10_reads_55 : decode cX10_reads 55 = .ok (.aload_n 0, 1) := by decide +kernel
theorem dX10_reads_56 : decode cX10_reads 56 = .ok (.getfield 72, 3) := by decide +kernel
theorem dX10_reads_59 : decode cX10_reads 59 = .ok (.iload_n 3, 1) := by decide +kernel
theorem dX10_reads_60 : decode cX10_reads 60 = .ok (.iaload, 1) := by decide +kernel
theorem dX10_reads_61 : decode cX10_reads 61 = .ok (.istore 6, 2) := by decide +kernel
theorem dX10_reads_63 : decode cX10_reads 63 = .ok (.aload_n 0, 1) := by decide +kernel
theorem dX10_reads_64 : decode cX10_reads 64 = .ok (.getfield 75, 3) := by decide +kernel
theorem dX10_reads_67 : decode cX10_reads 67 = .ok (.iload_n 3, 1) := by decide +kernel
theorem dX10_reads_68 : decode cX10_reads 68 = .ok (.iaload, 1) := by decide +kernel
theorem dX10_reads_69 : decode cX10_reads 69 = .ok (.istore 7, 2) := by decide +kernel
theorem dX10_reads_71 : decode cX10_reads 71 = .ok (.aload_n 0, 1) := by decide +kernel
theorem dX10_reads_72 : decode cX10_reads 72 = .ok (.getfield 75, 3) := by decide +kernel
theorem dX10_reads_75 : decode cX10_reads 75 = .ok (.iload_n 3, 1) := by decide +kernel
theorem dX10_reads_76 : decode cX10_reads 76 = .ok (.dup2, 1) := by decide +kernel
theorem dX10_reads_77 : decode cX10_reads 77 = .ok (.iaload, 1) := by decide +kernel
theorem dX10_reads_78 : decode cX10_reads 78 = .ok (.iconst 1, 1) := by decide +kernel
theorem dX10_reads_79 : decode cX10_reads 79 = .ok (.iadd, 1) := by decide +kernel
theorem dX10_reads_80 : decode cX10_reads 80 = .ok (.iastore, 1) := by decide +kernel
theorem dX10_reads_81 : decode cX10_reads 81 = .ok (.aload_n 0, 1) := by decide +kernel
theorem dX10_reads_82 : decode cX10_reads 82 = .ok (.getfield 7, 3) := by decide +kernel
theorem dX10_reads_85 : decode cX10_reads 85 = .ok (.iload 4, 2) := by decide +kernel
theorem dX10_reads_87 : decode cX10_reads 87 = .ok (.iaload, 1) := by decide +kernel
theorem dX10_reads_88 : decode cX10_reads 88 = .ok (.ifCond .ne 19, 3) := by decide +kernel
theorem dX10_reads_91 : decode cX10_reads 91 = .ok (.aload_n 0, 1) := by decide +kernel
theorem dX10_reads_92 : decode cX10_reads 92 = .ok (.iload 4, 2) := by decide +kernel
theorem dX10_reads_94 : decode cX10_reads 94 = .ok (.iload 5, 2) := by decide +kernel
theorem dX10_reads_96 : decode cX10_reads 96 = .ok (.iload 6, 2) := by decide +kernel
theorem dX10_reads_98 : decode cX10_reads 98 = .ok (.invokevirtual 193, 3) := by decide +kernel
theorem dX10_reads_101 : decode cX10_reads 101 = .ok (.iinc 3 (-1), 3) := by decide +kernel
theorem dX10_reads_104 : decode cX10_reads 104 = .ok (.goto 134, 3) := by decide +kernel
theorem dX10_reads_107 : decode cX10_reads 107 = .ok (.aload_n 0, 1) := by decide +kernel
theorem dX10_reads_108 : decode cX10_reads 108 = .ok (.getfield 7, 3) := by decide +kernel
theorem dX10_reads_111 : decode cX10_reads 111 = .ok (.iload 4, 2) := by decide +kernel
theorem dX10_reads_113 : decode cX10_reads 113 = .ok (.iaload, 1) := by decide +kernel
theorem dX10_reads_114 : decode cX10_reads 114 = .ok (.iconst 1, 1) := by decide +kernel
theorem dX10_reads_115 : decode cX10_reads 115 = .ok (.if_icmp .ne 102, 3) := by decide +kernel
theorem dX10_reads_118 : decode cX10_reads 118 = .ok (.aload_n 0, 1) := by decide +kernel
theorem dX10_reads_119 : decode cX10_reads 119 = .ok (.getfield 13, 3) := by decide +kernel
theorem dX10_reads_122 : decode cX10_reads 122 = .ok (.iload 4, 2) := by decide +kernel
theorem dX10_reads_124 : decode cX10_reads 124 = .ok (.iaload, 1) := by decide +kernel
theorem dX10_reads_125 : decode cX10_reads 125 = .ok (.iload 5, 2) := by decide +kernel
theorem dX10_reads_127 : decode cX10_reads 127 = .ok (.if_icmp .ge 13, 3) := by decide +kernel
theorem dX10_reads_130 : decode cX10_reads 130 = .ok (.aload_n 0, 1) := by decide +kernel
theorem dX10_reads_131 : decode cX10_reads 131 = .ok (.getfield 13, 3) := by decide +kernel
theorem dX10_reads_134 : decode cX10_reads 134 = .ok (.iload 4, 2) := by decide +kernel
theorem dX10_reads_136 : decode cX10_reads 136 = .ok (.iaload, 1) := by decide +kernel
theorem dX10_reads_137 : decode cX10_reads 137 = .ok (.goto 5, 3) := by decide +kernel
theorem dX10_reads_140 : decode cX10_reads 140 = .ok (.iload 5, 2) := by decide +kernel
theorem dX10_reads_142 : decode cX10_reads 142 = .ok (.istore 8, 2) := by decide +kernel
theorem dX10_reads_144 : decode cX10_reads 144 = .ok (.iload 7, 2) := by decide +kernel
theorem dX10_reads_146 : decode cX10_reads 146 = .ok (.ifCond .ne 24, 3) := by decide +kernel
theorem dX10_reads_149 : decode cX10_reads 149 = .ok (.aload_n 0, 1) := by decide +kernel
theorem dX10_reads_150 : decode cX10_reads 150 = .ok (.iload_n 3, 1) := by decide +kernel
theorem dX10_reads_151 : decode cX10_reads 151 = .ok (.iconst 1, 1) := by decide +kernel
theorem dX10_reads_152 : decode cX10_reads 152 = .ok (.iadd, 1) := by decide +kernel
theorem dX10_reads_153 : decode cX10_reads 153 = .ok (.aload_n 0, 1) := by decide +kernel
theorem dX10_reads_154 : decode cX10_reads 154 = .ok (.getfield 16, 3) := by decide +kernel
theorem dX10_reads_157 : decode cX10_reads 157 = .ok (.iload 4, 2) := by decide +kernel
theorem dX10_reads_159 : decode cX10_reads 159 = .ok (.iaload, 1) := by decide +kernel
theorem dX10_reads_160 : decode cX10_reads 160 = .ok (.iload 8, 2) := by decide +kernel
theorem dX10_reads_162 : decode cX10_reads 162 = .ok (.iload 6, 2) := by decide +kernel
theorem dX10_reads_164 : decode cX10_reads 164 = .ok (.invokevirtual 189, 3) := by decide +kernel
theorem dX10_reads_167 : decode cX10_reads 167 = .ok (.goto 33, 3) := by decide +kernel
theorem dX10_reads_170 : decode cX10_reads 170 = .ok (.iload 7, 2) := by decide +kernel
theorem dX10_reads_172 : decode cX10_reads 172 = .ok (.iconst 1, 1) := by decide +kernel
theorem dX10_reads_173 : decode cX10_reads 173 = .ok (.if_icmp .ne 27, 3) := by decide +kernel
theorem dX10_reads_176 : decode cX10_reads 176 = .ok (.aload_n 0, 1) := by decide +kernel
theorem dX10_reads_177 : decode cX10_reads 177 = .ok (.iload_n 3, 1) := by decide +kernel
theorem dX10_reads_178 : decode cX10_reads 178 = .ok (.iconst 1, 1) := by decide +kernel
theorem dX10_reads_179 : decode cX10_reads 179 = .ok (.iadd, 1) := by decide +kernel
theorem dX10_reads_180 : decode cX10_reads 180 = .ok (.aload_n 0, 1) := by decide +kernel
theorem dX10_reads_181 : decode cX10_reads 181 = .ok (.getfield 19, 3) := by decide +kernel
theorem dX10_reads_184 : decode cX10_reads 184 = .ok (.iload 4, 2) := by decide +kernel
theorem dX10_reads_186 : decode cX10_reads 186 = .ok (.iaload, 1) := by decide +kernel
theorem dX10_reads_187 : decode cX10_reads 187 = .ok (.iload 5, 2) := by decide +kernel
theorem dX10_reads_189 : decode cX10_reads 189 = .ok (.iload 8, 2) := by decide +kernel
theorem dX10_reads_191 : decode cX10_reads 191 = .ok (.isub, 1) := by decide +kernel
theorem dX10_reads_192 : decode cX10_reads 192 = .ok (.iload 6, 2) := by decide +kernel
theorem dX10_reads_194 : decode cX10_reads 194 = .ok (.iload 8, 2) := by decide +kernel
theorem dX10_reads_196 : decode cX10_reads 196 = .ok (.iadd, 1) := by decide +kernel
theorem dX10_reads_197 : decode cX10_reads 197 = .ok (.invokevirtual 189, 3) := by decide +kernel
theorem dX10_reads_200 : decode cX10_reads 200 = .ok (.iload_n 3, 1) := by decide +kernel
theorem dX10_reads_201 : decode cX10_reads 201 = .ok (.iload 7, 2) := by decide +kernel
theorem dX10_reads_203 : decode cX10_reads 203 = .ok (.iconst 2, 1) := by decide +kernel
theorem dX10_reads_204 : decode cX10_reads 204 = .ok (.if_icmp .ne 7, 3) := by decide +kernel
theorem dX10_reads_207 : decode cX10_reads 207 = .ok (.iconst (-1), 1) := by decide +kernel
theorem dX10_reads_208 : decode cX10_reads 208 = .ok (.goto 4, 3) := by decide +kernel
theorem dX10_reads_211 : decode cX10_reads 211 = .ok (.iconst 1, 1) := by decide +kernel
theorem dX10_reads_212 : decode cX10_reads 212 = .ok (.iadd, 1) := by decide +kernel
theorem dX10_reads_213 : decode cX10_reads 213 = .ok (.istore_n 3, 1) := by decide +kernel
theorem dX10_reads_214 : decode cX10_reads 214 = .ok (.goto 24, 3) := by decide +kernel
theorem dX10_reads_217 : decode cX10_reads 217 = .ok (.aload_n 0, 1) := by decide +kernel
theorem dX10_reads_218 : decode cX10_reads 218 = .ok (.iload_n 3, 1) := by decide +kernel
theorem dX10_reads_219 : decode cX10_reads 219 = .ok (.iload 7, 2) := by decide +kernel
theorem dX10_reads_221 : decode cX10_reads 221 = .ok (.invokevirtual 196, 3) := by decide +kernel
theorem dX10_reads_224 : decode cX10_reads 224 = .ok (.iload_n 3, 1) := by decide +kernel
theorem dX10_reads_225 : decode cX10_reads 225 = .ok (.iload 7, 2) := by decide +kernel
theorem dX10_reads_227 : decode cX10_reads 227 = .ok (.iconst 4, 1) := by decide +kernel
theorem dX10_reads_228 : decode cX10_reads 228 = .ok (.if_icmp .ne 7, 3) := by decide +kernel
theorem dX10_reads_231 : decode cX10_reads 231 = .ok (.iconst (-1), 1) := by decide +kernel
theorem dX10_reads_232 : decode cX10_reads 232 = .ok (.goto 4, 3) := by decide +kernel
theorem dX10_reads_235 : decode cX10_reads 235 = .ok (.iconst 1, 1) := by decide +kernel
theorem dX10_reads_236 : decode cX10_reads 236 = .ok (.iadd, 1) := by decide +kernel
theorem dX10_reads_237 : decode cX10_reads 237 = .ok (.istore_n 3, 1) := by decide +kernel
theorem dX10_reads_238 : decode cX10_reads 238 = .ok (.goto (-210), 3) := by decide +kernel
theorem dX10_reads_241 : decode cX10_reads 241 = .ok (.return_, 1) := by decide +kernel
set_option maxRecDepth 20000 in
theorem ggX10_readsPopular_X10_room : GoodIn wsX10_readsPopular wsX10_room := goodIn_r _ [19, 20, 32, 33, 34, 35, 36, 37, 38, 39, 40, 41, 42, 43, 44, 45, 46, 47, 48, 49, 50, 51, 52, 53, 54, 55, 56, 57, 58, 59, 60, 61, 62, 63, 64, 65, 66, 67, 68, 69, 70, 71] (by decide +kernel) (by decide +kernel)
set_option maxRecDepth 20000 in
theorem gX10_readsPopular_X10_room : GoodIn wsX10_readsPopular (wsV RX10 199 RX10 yX10_room wsX10_room) := goodIn_app (goodIn_of _ (by decide +kernel)) ggX10_readsPopular_X10_room
set_option maxRecDepth 20000 in
theorem ggX10_readsPopular_X10_into : GoodIn wsX10_readsPopular wsX10_into := goodIn_r _ [24, 1, 2, 14, 25, 32, 33, 34, 35, 36, 37, 38, 39, 40, 41, 42, 43, 44, 45, 46, 47, 48, 49, 50, 51, 52, 53, 54, 55, 56, 57, 58, 59, 60, 61, 62, 63, 64, 65, 66, 67, 68, 69, 70, 71] (by decide +kernel) (by decide +kernel)
set_option maxRecDepth 20000 in
theorem gX10_readsPopular_X10_into : GoodIn wsX10_readsPopular (wsV RX10 189 RX10 yX10_into wsX10_into) := goodIn_app (goodIn_of _ (by decide +kernel)) ggX10_readsPopular_X10_into
set_option maxRecDepth 20000 in
theorem ggX10_readsPopular_X10_fails : GoodIn wsX10_readsPopular wsX10_fails := goodIn_r _ [29, 30, 31, 32, 33, 34, 35, 36, 37, 38, 39, 40, 41, 42, 43, 44, 45, 46, 47, 48, 49, 50, 51, 52, 53, 54, 55, 56, 57, 58, 59, 60, 61, 62, 63, 64, 65, 66, 67, 68, 69, 70, 71] (by decide +kernel) (by decide +kernel)
set_option maxRecDepth 20000 in
theorem gX10_readsPopular_X10_fails : GoodIn wsX10_readsPopular (wsV RX10 180 RX10 yX10_fails wsX10_fails) := goodIn_app (goodIn_of _ (by decide +kernel)) ggX10_readsPopular_X10_fails
theorem dX10_readsPopular_0 : decode cX10_readsPopular 0 = .ok (.aload_n 0, 1) := by decide +kernel
theorem dX10_readsPopular_1 : decode cX10_readsPopular 1 = .ok (.getfield 66, 3) := by decide +kernel
theorem dX10_readsPopular_4 : decode cX10_readsPopular 4 = .ok (.iload_n 1, 1) := by decide +kernel
theorem dX10_readsPopular_5 : decode cX10_readsPopular 5 = .ok (.iaload, 1) := by decide +kernel
theorem dX10_readsPopular_6 : decode cX10_readsPopular 6 = .ok (.istore_n 3, 1) := by decide +kernel
theorem dX10_readsPopular_7 : decode cX10_readsPopular 7 = .ok (.aload_n 0, 1) := by decide +kernel
theorem dX10_readsPopular_8 : decode cX10_readsPopular 8 = .ok (.getfield 69, 3) := by decide +kernel
theorem dX10_readsPopular_11 : decode cX10_readsPopular 11 = .ok (.iload_n 1, 1) := by decide +kernel
theorem dX10_readsPopular_12 : decode cX10_readsPopular 12 = .ok (.iaload, 1) := by decide +kernel
theorem dX10_readsPopular_13 : decode cX10_readsPopular 13 = .ok (.istore 4, 2) := by decide +kernel
theorem dX10_readsPopular_15 : decode cX10_readsPopular 15 = .ok (.iload_n 2, 1) := by decide +kernel
theorem dX10_readsPopular_16 : decode cX10_readsPopular 16 = .ok (.ifCond .le 17, 3) := by decide +kernel
theorem dX10_readsPopular_19 : decode cX10_readsPopular 19 = .ok (.aload_n 0, 1) := by decide +kernel
theorem dX10_readsPopular_20 : decode cX10_readsPopular 20 = .ok (.getfield 48, 3) := by decide +kernel
theorem dX10_readsPopular_23 : decode cX10_readsPopular 23 = .ok (.aload_n 0, 1) := by decide +kernel
theorem dX10_readsPopular_24 : decode cX10_readsPopular 24 = .ok (.getfield 78, 3) := by decide +kernel
theorem dX10_readsPopular_27 : decode cX10_readsPopular 27 = .ok (.iload_n 1, 1) := by decide +kernel
theorem dX10_readsPopular_28 : decode cX10_readsPopular 28 = .ok (.iaload, 1) := by decide +kernel
theorem dX10_readsPopular_29 : decode cX10_readsPopular 29 = .ok (.iaload, 1) := by decide +kernel
theorem dX10_readsPopular_30 : decode cX10_readsPopular 30 = .ok (.goto 4, 3) := by decide +kernel
theorem dX10_readsPopular_33 : decode cX10_readsPopular 33 = .ok (.iconst 0, 1) := by decide +kernel
theorem dX10_readsPopular_34 : decode cX10_readsPopular 34 = .ok (.istore 5, 2) := by decide +kernel
theorem dX10_readsPopular_36 : decode cX10_readsPopular 36 = .ok (.iload_n 2, 1) := by decide +kernel
theorem dX10_readsPopular_37 : decode cX10_readsPopular 37 = .ok (.tableswitch 295 0 3 #[31, 75, 139, 185], 31) := by decide +kernel
theorem dX10_readsPopular_68 : decode cX10_readsPopular 68 = .ok (.aload_n 0, 1) := by decide +kernel
theorem dX10_readsPopular_69 : decode cX10_readsPopular 69 = .ok (.getfield 78, 3) := by decide +kernel
theorem dX10_readsPopular_72 : decode cX10_readsPopular 72 = .ok (.iload_n 1, 1) := by decide +kernel
theorem dX10_readsPopular_73 : decode cX10_readsPopular 73 = .ok (.aload_n 0, 1) := by decide +kernel
theorem dX10_readsPopular_74 : decode cX10_readsPopular 74 = .ok (.iconst 1, 1) := by decide +kernel
theorem dX10_readsPopular_75 : decode cX10_readsPopular 75 = .ok (.invokevirtual 199, 3) := by decide +kernel
theorem dX10_readsPopular_78 : decode cX10_readsPopular 78 = .ok (.iastore, 1) := by decide +kernel
theorem dX10_readsPopular_79 : decode cX10_readsPopular 79 = .ok (.aload_n 0, 1) := by decide +kernel
theorem dX10_readsPopular_80 : decode cX10_readsPopular 80 = .ok (.getfield 90, 3) := by decide +kernel
theorem dX10_readsPopular_83 : decode cX10_readsPopular 83 = .ok (.iload_n 1, 1) := by decide +kernel
theorem dX10_readsPopular_84 : decode cX10_readsPopular 84 = .ok (.aload_n 0, 1) := by decide +kernel
theorem dX10_readsPopular_85 : decode cX10_readsPopular 85 = .ok (.getfield 177, 3) := by decide +kernel
theorem dX10_readsPopular_88 : decode cX10_readsPopular 88 = .ok (.iastore, 1) := by decide +kernel
theorem dX10_readsPopular_89 : decode cX10_readsPopular 89 = .ok (.aload_n 0, 1) := by decide +kernel
theorem dX10_readsPopular_90 : decode cX10_readsPopular 90 = .ok (.iload_n 1, 1) := by decide +kernel
theorem dX10_readsPopular_91 : decode cX10_readsPopular 91 = .ok (.iconst 1, 1) := by decide +kernel
theorem dX10_readsPopular_92 : decode cX10_readsPopular 92 = .ok (.iadd, 1) := by decide +kernel
theorem dX10_readsPopular_93 : decode cX10_readsPopular 93 = .ok (.aload_n 0, 1) := by decide +kernel
theorem dX10_readsPopular_94 : decode cX10_readsPopular 94 = .ok (.getfield 16, 3) := by decide +kernel
theorem dX10_readsPopular_97 : decode cX10_readsPopular 97 = .ok (.iload_n 3, 1) := by decide +kernel
theorem dX10_readsPopular_98 : decode cX10_readsPopular 98 = .ok (.iaload, 1) := by decide +kernel
theorem dX10_readsPopular_99 : decode cX10_readsPopular 99 = .ok (.iconst 1, 1) := by decide +kernel
theorem dX10_readsPopular_100 : decode cX10_readsPopular 100 = .ok (.aload_n 0, 1) := by decide +kernel
theorem dX10_readsPopular_101 : decode cX10_readsPopular 101 = .ok (.getfield 78, 3) := by decide +kernel
theorem dX10_readsPopular_104 : decode cX10_readsPopular 104 = .ok (.iload_n 1, 1) := by decide +kernel
theorem dX10_readsPopular_105 : decode cX10_readsPopular 105 = .ok (.iaload, 1) := by decide +kernel
theorem dX10_readsPopular_106 : decode cX10_readsPopular 106 = .ok (.invokevirtual 189, 3) := by decide +kernel
theorem dX10_readsPopular_109 : decode cX10_readsPopular 109 = .ok (.goto 326, 3) := by decide +kernel
theorem dX10_readsPopular_112 : decode cX10_readsPopular 112 = .ok (.iload 5, 2) := by decide +kernel
theorem dX10_readsPopular_114 : decode cX10_readsPopular 114 = .ok (.ifCond .lt 14, 3) := by decide +kernel
theorem dX10_readsPopular_117 : decode cX10_readsPopular 117 = .ok (.iload 5, 2) := by decide +kernel
theorem dX10_readsPopular_119 : decode cX10_readsPopular 119 = .ok (.aload_n 0, 1) := by decide +kernel
theorem dX10_readsPopular_120 : decode cX10_readsPopular 120 = .ok (.getfield 13, 3) := by decide +kernel
theorem dX10_readsPopular_123 : decode cX10_readsPopular 123 = .ok (.iload_n 3, 1) := by decide +kernel
theorem dX10_readsPopular_124 : decode cX10_readsPopular 124 = .ok (.iaload, 1) := by decide +kernel
theorem dX10_readsPopular_125 : decode cX10_readsPopular 125 = .ok (.if_icmp .le 15, 3) := by decide +kernel
theorem dX10_readsPopular_128 : decode cX10_readsPopular 128 = .ok (.aload_n 0, 1) := by decide +kernel
theorem dX10_readsPopular_129 : decode cX10_readsPopular 129 = .ok (.iconst 3, 1) := by decide +kernel
theorem dX10_readsPopular_130 : decode cX10_readsPopular 130 = .ok (.aload_n 0, 1) := by decide +kernel
theorem dX10_readsPopular_131 : decode cX10_readsPopular 131 = .ok (.getfield 90, 3) := by decide +kernel
theorem dX10_readsPopular_134 : decode cX10_readsPopular 134 = .ok (.iload_n 1, 1) := by decide +kernel
theorem dX10_readsPopular_135 : decode cX10_readsPopular 135 = .ok (.iaload, 1) := by decide +kernel
theorem dX10_readsPopular_136 : decode cX10_readsPopular 136 = .ok (.invokevirtual 180, 3) := by decide +kernel
theorem dX10_readsPopular_139 : decode cX10_readsPopular 139 = .ok (.return_, 1) := by decide +kernel
theorem dX10_readsPopular_140 : decode cX10_readsPopular 140 = .ok (.aload_n 0, 1) := by decide +kernel
theorem dX10_readsPopular_141 : decode cX10_readsPopular 141 = .ok (.getfield 81, 3) := by decide +kernel
theorem dX10_readsPopular_144 : decode cX10_readsPopular 144 = .ok (.iload_n 1, 1) := by decide +kernel
theorem dX10_readsPopular_145 : decode cX10_readsPopular 145 = .ok (.aload_n 0, 1) := by decide +kernel
theorem dX10_readsPopular_146 : decode cX10_readsPopular 146 = .ok (.iload 5, 2) := by decide +kernel
theorem dX10_readsPopular_148 : decode cX10_readsPopular 148 = .ok (.invokevirtual 199, 3) := by decide +kernel
theorem dX10_readsPopular_151 : decode cX10_readsPopular 151 = .ok (.iastore, 1) := by decide +kernel
theorem dX10_readsPopular_152 : decode cX10_readsPopular 152 = .ok (.aload_n 0, 1) := by decide +kernel
theorem dX10_readsPopular_153 : decode cX10_readsPopular 153 = .ok (.iload_n 1, 1) := by decide +kernel
theorem dX10_readsPopular_154 : decode cX10_readsPopular 154 = .ok (.iconst 1, 1) := by decide +kernel
theorem dX10_readsPopular_155 : decode cX10_readsPopular 155 = .ok (.iadd, 1) := by decide +kernel
theorem dX10_readsPopular_156 : decode cX10_readsPopular 156 = .ok (.aload_n 0, 1) := by decide +kernel
theorem dX10_readsPopular_157 : decode cX10_readsPopular 157 = .ok (.getfield 16, 3) := by decide +kernel
theorem dX10_readsPopular_160 : decode cX10_readsPopular 160 = .ok (.iload_n 3, 1) := by decide +kernel
theorem dX10_readsPopular_161 : decode cX10_readsPopular 161 = .ok (.iaload, 1) := by decide +kernel
theorem dX10_readsPopular_162 : decode cX10_readsPopular 162 = .ok (.iload 5, 2) := by decide +kernel
theorem dX10_readsPopular_164 : decode cX10_readsPopular 164 = .ok (.aload_n 0, 1) := by decide +kernel
theorem dX10_readsPopular_165 : decode cX10_readsPopular 165 = .ok (.getfield 81, 3) := by decide +kernel
theorem dX10_readsPopular_168 : decode cX10_readsPopular 168 = .ok (.iload_n 1, 1) := by decide +kernel
theorem dX10_readsPopular_169 : decode cX10_readsPopular 169 = .ok (.iaload, 1) := by decide +kernel
theorem dX10_readsPopular_170 : decode cX10_readsPopular 170 = .ok (.invokevirtual 189, 3) := by decide +kernel
theorem dX10_readsPopular_173 : decode cX10_readsPopular 173 = .ok (.goto 262, 3) := by decide +kernel
theorem dX10_readsPopular_176 : decode cX10_readsPopular 176 = .ok (.aload_n 0, 1) := by decide +kernel
theorem dX10_readsPopular_177 : decode cX10_readsPopular 177 = .ok (.getfield 84, 3) := by decide +kernel
theorem dX10_readsPopular_180 : decode cX10_readsPopular 180 = .ok (.iload_n 1, 1) := by decide +kernel
theorem dX10_readsPopular_181 : decode cX10_readsPopular 181 = .ok (.aload_n 0, 1) := by decide +kernel
theorem dX10_readsPopular_182 : decode cX10_readsPopular 182 = .ok (.iload 4, 2) := by decide +kernel
theorem dX10_readsPopular_184 : decode cX10_readsPopular 184 = .ok (.invokevirtual 199, 3) := by decide +kernel
theorem dX10_readsPopular_187 : decode cX10_readsPopular 187 = .ok (.iastore, 1) := by decide +kernel
theorem dX10_readsPopular_188 : decode cX10_readsPopular 188 = .ok (.aload_n 0, 1) := by decide +kernel
theorem dX10_readsPopular_189 : decode cX10_readsPopular 189 = .ok (.getfield 90, 3) := by decide +kernel
theorem dX10_readsPopular_192 : decode cX10_readsPopular 192 = .ok (.iload_n 1, 1) := by decide +kernel
theorem dX10_readsPopular_193 : decode cX10_readsPopular 193 = .ok (.aload_n 0, 1) := by decide +kernel
theorem dX10_readsPopular_194 : decode cX10_readsPopular 194 = .ok (.getfield 177, 3) := by decide +kernel
theorem dX10_readsPopular_197 : decode cX10_readsPopular 197 = .ok (.iastore, 1) := by decide +kernel
theorem dX10_readsPopular_198 : decode cX10_readsPopular 198 = .ok (.aload_n 0, 1) := by decide +kernel
theorem dX10_readsPopular_199 : decode cX10_readsPopular 199 = .ok (.iload_n 1, 1) := by decide +kernel
theorem dX10_readsPopular_200 : decode cX10_readsPopular 200 = .ok (.iconst 1, 1) := by decide +kernel
theorem dX10_readsPopular_201 : decode cX10_readsPopular 201 = .ok (.iadd, 1) := by decide +kernel
theorem dX10_readsPopular_202 : decode cX10_readsPopular 202 = .ok (.aload_n 0, 1) := by decide +kernel
theorem dX10_readsPopular_203 : decode cX10_readsPopular 203 = .ok (.getfield 19, 3) := by decide +kernel
theorem dX10_readsPopular_206 : decode cX10_readsPopular 206 = .ok (.iload_n 3, 1) := by decide +kernel
theorem dX10_readsPopular_207 : decode cX10_readsPopular 207 = .ok (.iaload, 1) := by decide +kernel
theorem dX10_readsPopular_208 : decode cX10_readsPopular 208 = .ok (.iload 4, 2) := by decide +kernel
theorem dX10_readsPopular_210 : decode cX10_readsPopular 210 = .ok (.aload_n 0, 1) := by decide +kernel
theorem dX10_readsPopular_211 : decode cX10_readsPopular 211 = .ok (.getfield 84, 3) := by decide +kernel
theorem dX10_readsPopular_214 : decode cX10_readsPopular 214 = .ok (.iload_n 1, 1) := by decide +kernel
theorem dX10_readsPopular_215 : decode cX10_readsPopular 215 = .ok (.iaload, 1) := by decide +kernel
theorem dX10_readsPopular_216 : decode cX10_readsPopular 216 = .ok (.invokevirtual 189, 3) := by decide +kernel
theorem dX10_readsPopular_219 : decode cX10_readsPopular 219 = .ok (.goto 216, 3) := by decide +kernel
theorem dX10_readsPopular_222 : decode cX10_readsPopular 222 = .ok (.iconst 0, 1) := by decide +kernel
theorem dX10_readsPopular_223 : decode cX10_readsPopular 223 = .ok (.istore 6, 2) := by decide +kernel
theorem dX10_readsPopular_225 : decode cX10_readsPopular 225 = .ok (.iconst 0, 1) := by decide +kernel
theorem dX10_readsPopular_226 : decode cX10_readsPopular 226 = .ok (.istore 7, 2) := by decide +kernel
theorem dX10_readsPopular_228 : decode cX10_readsPopular 228 = .ok (.iload 7, 2) := by decide +kernel
theorem dX10_readsPopular_230 : decode cX10_readsPopular 230 = .ok (.iload 4, 2) := by decide +kernel
theorem dX10_readsPopular_232 : decode cX10_readsPopular 232 = .ok (.if_icmp .ge 64, 3) := by decide +kernel
theorem dX10_readsPopular_235 : decode cX10_readsPopular 235 = .ok (.aload_n 0, 1) := by decide +kernel
theorem dX10_readsPopular_236 : decode cX10_readsPopular 236 = .ok (.getfield 48, 3) := by decide +kernel
theorem dX10_readsPopular_239 : decode cX10_readsPopular 239 = .ok (.aload_n 0, 1) := by decide +kernel
theorem dX10_readsPopular_240 : decode cX10_readsPopular 240 = .ok (.getfield 84, 3) := by decide +kernel
theorem dX10_readsPopular_243 : decode cX10_readsPopular 243 = .ok (.iload_n 1, 1) := by decide +kernel
theorem dX10_readsPopular_244 : decode cX10_readsPopular 244 = .ok (.iaload, 1) := by decide +kernel
theorem dX10_readsPopular_245 : decode cX10_readsPopular 245 = .ok (.iload 7, 2) := by decide +kernel
theorem dX10_readsPopular_247 : decode cX10_readsPopular 247 = .ok (.iadd, 1) := by decide +kernel
theorem dX10_readsPopular_248 : decode cX10_readsPopular 248 = .ok (.iaload, 1) := by decide +kernel
theorem dX10_readsPopular_249 : decode cX10_readsPopular 249 = .ok (.istore 8, 2) := by decide +kernel
theorem dX10_readsPopular_251 : decode cX10_readsPopular 251 = .ok (.iload 8, 2) := by decide +kernel
theorem dX10_readsPopular_253 : decode cX10_readsPopular 253 = .ok (.ifCond .lt 10, 3) := by decide +kernel
theorem dX10_readsPopular_256 : decode cX10_readsPopular 256 = .ok (.iload 8, 2) := by decide +kernel
theorem dX10_readsPopular_258 : decode cX10_readsPopular 258 = .ok (.iload 5, 2) := by decide +kernel
theorem dX10_readsPopular_260 : decode cX10_readsPopular 260 = .ok (.if_icmp .le 15, 3) := by decide +kernel
theorem dX10_readsPopular_263 : decode cX10_readsPopular 263 = .ok (.aload_n 0, 1) := by decide +kernel
theorem dX10_readsPopular_264 : decode cX10_readsPopular 264 = .ok (.iconst 3, 1) := by decide +kernel
theorem dX10_readsPopular_265 : decode cX10_readsPopular 265 = .ok (.aload_n 0, 1) := by decide +kernel
theorem dX10_readsPopular_266 : decode cX10_readsPopular 266 = .ok (.getfield 90, 3) := by decide +kernel
theorem dX10_readsPopular_269 : decode cX10_readsPopular 269 = .ok (.iload_n 1, 1) := by decide +kernel
theorem dX10_readsPopular_270 : decode cX10_readsPopular 270 = .ok (.iaload, 1) := by decide +kernel
theorem dX10_readsPopular_271 : decode cX10_readsPopular 271 = .ok (.invokevirtual 180, 3) := by decide +kernel
theorem dX10_readsPopular_274 : decode cX10_readsPopular 274 = .ok (.return_, 1) := by decide +kernel
theorem dX10_readsPopular_275 : decode cX10_readsPopular 275 = .ok (.iload 6, 2) := by decide +kernel
theorem dX10_readsPopular_277 : decode cX10_readsPopular 277 = .ok (.iload 8, 2) := by decide +kernel
theorem dX10_readsPopular_279 : decode cX10_readsPopular 279 = .ok (.ifCond .ne 7, 3) := by decide +kernel
theorem dX10_readsPopular_282 : decode cX10_readsPopular 282 = .ok (.iconst 1, 1) := by decide +kernel
theorem dX10_readsPopular_283 : decode cX10_readsPopular 283 = .ok (.goto 4, 3) := by decide +kernel
theorem dX10_readsPopular_286 : decode cX10_readsPopular 286 = .ok (.iconst 0, 1) := by decide +kernel
theorem dX10_readsPopular_287 : decode cX10_readsPopular 287 = .ok (.iadd, 1) := by decide +kernel
theorem dX10_readsPopular_288 : decode cX10_readsPopular 288 = .ok (.istore 6, 2) := by decide +kernel
theorem dX10_readsPopular_290 : decode cX10_readsPopular 290 = .ok (.iinc 7 1, 3) := by decide +kernel
theorem dX10_readsPopular_293 : decode cX10_readsPopular 293 = .ok (.goto (-65), 3) := by decide +kernel
theorem dX10_readsPopular_296 : decode cX10_readsPopular 296 = .ok (.aload_n 0, 1) := by decide +kernel
theorem dX10_readsPopular_297 : decode cX10_readsPopular 297 = .ok (.getfield 87, 3) := by decide +kernel
theorem dX10_readsPopular_300 : decode cX10_readsPopular 300 = .ok (.iload_n 1, 1) := by decide +kernel
theorem dX10_readsPopular_301 : decode cX10_readsPopular 301 = .ok (.aload_n 0, 1) := by decide +kernel
theorem dX10_readsPopular_302 : decode cX10_readsPopular 302 = .ok (.iload 6, 2) := by decide +kernel
theorem dX10_readsPopular_304 : decode cX10_readsPopular 304 = .ok (.invokevirtual 199, 3) := by decide +kernel
theorem dX10_readsPopular_307 : decode cX10_readsPopular 307 = .ok (.iastore, 1) := by decide +kernel
theorem dX10_readsPopular_308 : decode cX10_readsPopular 308 = .ok (.aload_n 0, 1) := by decide +kernel
theorem dX10_readsPopular_309 : decode cX10_readsPopular 309 = .ok (.iload_n 1, 1) := by decide +kernel
theorem dX10_readsPopular_310 : decode cX10_readsPopular 310 = .ok (.iconst 1, 1) := by decide +kernel
theorem dX10_readsPopular_311 : decode cX10_readsPopular 311 = .ok (.iadd, 1) := by decide +kernel
theorem dX10_readsPopular_312 : decode cX10_readsPopular 312 = .ok (.aload_n 0, 1) := by decide +kernel
theorem dX10_readsPopular_313 : decode cX10_readsPopular 313 = .ok (.getfield 22, 3) := by decide +kernel
theorem dX10_readsPopular_316 : decode cX10_readsPopular 316 = .ok (.iload_n 3, 1) := by decide +kernel
theorem dX10_readsPopular_317 : decode cX10_readsPopular 317 = .ok (.iaload, 1) := by decide +kernel
theorem dX10_readsPopular_318 : decode cX10_readsPopular 318 = .ok (.iload 6, 2) := by decide +kernel
theorem dX10_readsPopular_320 : decode cX10_readsPopular 320 = .ok (.aload_n 0, 1) := by decide +kernel
theorem dX10_readsPopular_321 : decode cX10_readsPopular 321 = .ok (.getfield 87, 3) := by decide +kernel
theorem dX10_readsPopular_324 : decode cX10_readsPopular 324 = .ok (.iload_n 1, 1) := by decide +kernel
theorem dX10_readsPopular_325 : decode cX10_readsPopular 325 = .ok (.iaload, 1) := by decide +kernel
theorem dX10_readsPopular_326 : decode cX10_readsPopular 326 = .ok (.invokevirtual 189, 3) := by decide +kernel
theorem dX10_readsPopular_329 : decode cX10_readsPopular 329 = .ok (.goto 106, 3) := by decide +kernel
theorem dX10_readsPopular_332 : decode cX10_readsPopular 332 = .ok (.aload_n 0, 1) := by decide +kernel
theorem dX10_readsPopular_333 : decode cX10_readsPopular 333 = .ok (.getfield 87, 3) := by decide +kernel
theorem dX10_readsPopular_336 : decode cX10_readsPopular 336 = .ok (.iload_n 1, 1) := by decide +kernel
theorem dX10_readsPopular_337 : decode cX10_readsPopular 337 = .ok (.iaload, 1) := by decide +kernel
theorem dX10_readsPopular_338 : decode cX10_readsPopular 338 = .ok (.istore 6, 2) := by decide +kernel
theorem dX10_readsPopular_340 : decode cX10_readsPopular 340 = .ok (.iconst 0, 1) := by decide +kernel
theorem dX10_readsPopular_341 : decode cX10_readsPopular 341 = .ok (.istore 7, 2) := by decide +kernel
theorem dX10_readsPopular_343 : decode cX10_readsPopular 343 = .ok (.iload 7, 2) := by decide +kernel
theorem dX10_readsPopular_345 : decode cX10_readsPopular 345 = .ok (.iload 4, 2) := by decide +kernel
theorem dX10_readsPopular_347 : decode cX10_readsPopular 347 = .ok (.if_icmp .ge 85, 3) := by decide +kernel
theorem dX10_readsPopular_350 : decode cX10_readsPopular 350 = .ok (.aload_n 0, 1) := by decide +kernel
theorem dX10_readsPopular_351 : decode cX10_readsPopular 351 = .ok (.getfield 48, 3) := by decide +kernel
theorem dX10_readsPopular_354 : decode cX10_readsPopular 354 = .ok (.aload_n 0, 1) := by decide +kernel
theorem dX10_readsPopular_355 : decode cX10_readsPopular 355 = .ok (.getfield 84, 3) := by decide +kernel
theorem dX10_readsPopular_358 : decode cX10_readsPopular 358 = .ok (.iload_n 1, 1) := by decide +kernel
theorem dX10_readsPopular_359 : decode cX10_readsPopular 359 = .ok (.iaload, 1) := by decide +kernel
theorem dX10_readsPopular_360 : decode cX10_readsPopular 360 = .ok (.iload 7, 2) := by decide +kernel
theorem dX10_readsPopular_362 : decode cX10_readsPopular 362 = .ok (.iadd, 1) := by decide +kernel
theorem dX10_readsPopular_363 : decode cX10_readsPopular 363 = .ok (.iaload, 1) := by decide +kernel
theorem dX10_readsPopular_364 : decode cX10_readsPopular 364 = .ok (.istore 8, 2) := by decide +kernel
theorem dX10_readsPopular_366 : decode cX10_readsPopular 366 = .ok (.aload_n 0, 1) := by decide +kernel
theorem dX10_readsPopular_367 : decode cX10_readsPopular 367 = .ok (.getfield 48, 3) := by decide +kernel
theorem dX10_readsPopular_370 : decode cX10_readsPopular 370 = .ok (.aload_n 0, 1) := by decide +kernel
theorem dX10_readsPopular_371 : decode cX10_readsPopular 371 = .ok (.getfield 72, 3) := by decide +kernel
theorem dX10_readsPopular_374 : decode cX10_readsPopular 374 = .ok (.iload_n 1, 1) := by decide +kernel
theorem dX10_readsPopular_375 : decode cX10_readsPopular 375 = .ok (.iaload, 1) := by decide +kernel
theorem dX10_readsPopular_376 : decode cX10_readsPopular 376 = .ok (.iload 7, 2) := by decide +kernel
theorem dX10_readsPopular_378 : decode cX10_readsPopular 378 = .ok (.iadd, 1) := by decide +kernel
theorem dX10_readsPopular_379 : decode cX10_readsPopular 379 = .ok (.iload 8, 2) := by decide +kernel
theorem dX10_readsPopular_381 : decode cX10_readsPopular 381 = .ok (.ifCond .ne 13, 3) := by decide +kernel
theorem dX10_readsPopular_384 : decode cX10_readsPopular 384 = .ok (.aload_n 0, 1) := by decide +kernel
theorem dX10_readsPopular_385 : decode cX10_readsPopular 385 = .ok (.getfield 48, 3) := by decide +kernel
theorem dX10_readsPopular_388 : decode cX10_readsPopular 388 = .ok (.iload 6, 2) := by decide +kernel
theorem dX10_readsPopular_390 : decode cX10_readsPopular 390 = .ok (.iaload, 1) := by decide +kernel
theorem dX10_readsPopular_391 : decode cX10_readsPopular 391 = .ok (.goto 19, 3) := by decide +kernel
theorem dX10_readsPopular_394 : decode cX10_readsPopular 394 = .ok (.aload_n 0, 1) := by decide +kernel
theorem dX10_readsPopular_395 : decode cX10_readsPopular 395 = .ok (.getfield 48, 3) := by decide +kernel
theorem dX10_readsPopular_398 : decode cX10_readsPopular 398 = .ok (.aload_n 0, 1) := by decide +kernel
theorem dX10_readsPopular_399 : decode cX10_readsPopular 399 = .ok (.getfield 81, 3) := by decide +kernel
theorem dX10_readsPopular_402 : decode cX10_readsPopular 402 = .ok (.iload_n 1, 1) := by decide +kernel
theorem dX10_readsPopular_403 : decode cX10_readsPopular 403 = .ok (.iaload, 1) := by decide +kernel
theorem dX10_readsPopular_404 : decode cX10_readsPopular 404 = .ok (.iload 8, 2) := by decide +kernel
theorem dX10_readsPopular_406 : decode cX10_readsPopular 406 = .ok (.iadd, 1) := by decide +kernel
theorem dX10_readsPopular_407 : decode cX10_readsPopular 407 = .ok (.iconst 1, 1) := by decide +kernel
theorem dX10_readsPopular_408 : decode cX10_readsPopular 408 = .ok (.isub, 1) := by decide +kernel
theorem dX10_readsPopular_409 : decode cX10_readsPopular 409 = .ok (.iaload, 1) := by decide +kernel
theorem dX10_readsPopular_410 : decode cX10_readsPopular 410 = .ok (.iastore, 1) := by decide +kernel
theorem dX10_readsPopular_411 : decode cX10_readsPopular 411 = .ok (.iload 6, 2) := by decide +kernel
theorem dX10_readsPopular_413 : decode cX10_readsPopular 413 = .ok (.iload 8, 2) := by decide +kernel
theorem dX10_readsPopular_415 : decode cX10_readsPopular 415 = .ok (.ifCond .ne 7, 3) := by decide +kernel
theorem dX10_readsPopular_418 : decode cX10_readsPopular 418 = .ok (.iconst 1, 1) := by decide +kernel
theorem dX10_readsPopular_419 : decode cX10_readsPopular 419 = .ok (.goto 4, 3) := by decide +kernel
theorem dX10_readsPopular_422 : decode cX10_readsPopular 422 = .ok (.iconst 0, 1) := by decide +kernel
theorem dX10_readsPopular_423 : decode cX10_readsPopular 423 = .ok (.iadd, 1) := by decide +kernel
theorem dX10_readsPopular_424 : decode cX10_readsPopular 424 = .ok (.istore 6, 2) := by decide +kernel
theorem dX10_readsPopular_426 : decode cX10_readsPopular 426 = .ok (.iinc 7 1, 3) := by decide +kernel
theorem dX10_readsPopular_429 : decode cX10_readsPopular 429 = .ok (.goto (-86), 3) := by decide +kernel
theorem dX10_readsPopular_432 : decode cX10_readsPopular 432 = .ok (.goto 3, 3) := by decide +kernel
theorem dX10_readsPopular_435 : decode cX10_readsPopular 435 = .ok (.return_, 1) := by decide +kernel
set_option maxRecDepth 20000 in
theorem ggX10_unpack_X10_isWay : GoodIn wsX10_unpack wsX10_isWay := goodIn_r _ [13, 14, 63, 64, 65, 66, 67, 68, 69, 70, 71, 72, 73, 74, 75, 76, 77, 78, 79, 80, 81, 82, 83, 84, 85, 86, 87, 88, 89, 90, 91, 92, 93, 94, 95, 96, 97, 98, 99, 100, 101, 102] (by decide +kernel) (by decide +kernel)
set_option maxRecDepth 20000 in
theorem gX10_unpack_X10_isWay : GoodIn wsX10_unpack (wsV RX10 113 RX10 yX10_isWay wsX10_isWay) := goodIn_app (goodIn_of _ (by decide +kernel)) ggX10_unpack_X10_isWay
set_option maxRecDepth 20000 in
theorem ggX10_unpack_X10_refuses : GoodIn wsX10_unpack wsX10_refuses := goodIn_r _ [18, 19, 63, 64, 65, 66, 67, 68, 69, 70, 71, 72, 73, 74, 75, 76, 77, 78, 79, 80, 81, 82, 83, 84, 85, 86, 87, 88, 89, 90, 91, 92, 93, 94, 95, 96, 97, 98, 99, 100, 101, 102] (by decide +kernel) (by decide +kernel)
set_option maxRecDepth 20000 in
theorem gX10_unpack_X10_refuses : GoodIn wsX10_unpack (wsV RX10 105 RX10 yX10_refuses wsX10_refuses) := goodIn_app (goodIn_of _ (by decide +kernel)) ggX10_unpack_X10_refuses
set_option maxRecDepth 20000 in
theorem ggX10_unpack_X10_reads : GoodIn wsX10_unpack wsX10_reads := goodIn_r _ [23, 24, 7, 8, 1, 25, 26, 27, 28, 29, 30, 31, 32, 33, 34, 35, 12, 36, 37, 38, 39, 40, 41, 42, 43, 44, 45, 5, 46, 47, 48, 49, 2, 50, 51, 52, 53, 54, 55, 56, 57, 58, 59, 60, 61, 62, 63, 64, 65, 66, 67, 68, 69, 70, 71, 72, 73, 74, 75, 76, 77, 78, 79, 80, 81, 82, 83, 84, 85, 86, 87, 88, 89, 90, 91, 92, 93, 94, 95, 96, 97, 98, 99, 100, 101, 102] (by decide +kernel) (by decide +kernel)
set_option maxRecDepth 20000 in
theorem gX10_unpack_X10_reads : GoodIn wsX10_unpack (wsV RX10 203 RX10 yX10_reads wsX10_reads) := goodIn_app (goodIn_of _ (by decide +kernel)) ggX10_unpack_X10_reads
theorem dX10_unpack_0 : decode cX10_unpack 0 = .ok (.aload_n 0, 1) := by decide +kernel
theorem dX10_unpack_1 : decode cX10_unpack 1 = .ok (.aload_n 0, 1) := by decide +kernel
theorem dX10_unpack_2 : decode cX10_unpack 2 = .ok (.iload_n 1, 1) := by decide +kernel
theorem dX10_unpack_3 : decode cX10_unpack 3 = .ok (.invokevirtual 113, 3) := by decide +kernel
theorem dX10_unpack_6 : decode cX10_unpack 6 = .ok (.ifCond .eq 14, 3) := by decide +kernel
theorem dX10_unpack_9 : decode cX10_unpack 9 = .ok (.iload_n 2, 1) := by decide +kernel
theorem dX10_unpack_10 : decode cX10_unpack 10 = .ok (.ifCond .lt 10, 3) := by decide +kernel
theorem dX10_unpack_13 : decode cX10_unpack 13 = .ok (.iload_n 2, 1) := by decide +kernel
theorem dX10_unpack_14 : decode cX10_unpack 14 = .ok (.sipush 400, 3) := by decide +kernel
theorem dX10_unpack_17 : decode cX10_unpack 17 = .ok (.if_icmp .le 7, 3) := by decide +kernel
theorem dX10_unpack_20 : decode cX10_unpack 20 = .ok (.iconst 1, 1) := by decide +kernel
theorem dX10_unpack_21 : decode cX10_unpack 21 = .ok (.goto 4, 3) := by decide +kernel
theorem dX10_unpack_24 : decode cX10_unpack 24 = .ok (.iconst 0, 1) := by decide +kernel
theorem dX10_unpack_25 : decode cX10_unpack 25 = .ok (.invokevirtual 105, 3) := by decide +kernel
theorem dX10_unpack_28 : decode cX10_unpack 28 = .ok (.ifCond .eq 5, 3) := by decide +kernel
theorem dX10_unpack_31 : decode cX10_unpack 31 = .ok (.iconst 0, 1) := by decide +kernel
theorem dX10_unpack_32 : decode cX10_unpack 32 = .ok (.ireturn, 1) := by decide +kernel
theorem dX10_unpack_33 : decode cX10_unpack 33 = .ok (.aload_n 0, 1) := by decide +kernel
theorem dX10_unpack_34 : decode cX10_unpack 34 = .ok (.iload_n 1, 1) := by decide +kernel
theorem dX10_unpack_35 : decode cX10_unpack 35 = .ok (.iload_n 2, 1) := by decide +kernel
theorem dX10_unpack_36 : decode cX10_unpack 36 = .ok (.invokevirtual 203, 3) := by decide +kernel
theorem dX10_unpack_39 : decode cX10_unpack 39 = .ok (.aload_n 0, 1) := by decide +kernel
theorem dX10_unpack_40 : decode cX10_unpack 40 = .ok (.aload_n 0, 1) := by decide +kernel
theorem dX10_unpack_41 : decode cX10_unpack 41 = .ok (.getfield 171, 3) := by decide +kernel
theorem dX10_unpack_44 : decode cX10_unpack 44 = .ok (.ifCond .ne 7, 3) := by decide +kernel
theorem dX10_unpack_47 : decode cX10_unpack 47 = .ok (.iconst (-1), 1) := by decide +kernel
theorem dX10_unpack_48 : decode cX10_unpack 48 = .ok (.goto 7, 3) := by decide +kernel
theorem dX10_unpack_51 : decode cX10_unpack 51 = .ok (.aload_n 0, 1) := by decide +kernel
theorem dX10_unpack_52 : decode cX10_unpack 52 = .ok (.getfield 174, 3) := by decide +kernel
theorem dX10_unpack_55 : decode cX10_unpack 55 = .ok (.putfield 34, 3) := by decide +kernel
theorem dX10_unpack_58 : decode cX10_unpack 58 = .ok (.aload_n 0, 1) := by decide +kernel
theorem dX10_unpack_59 : decode cX10_unpack 59 = .ok (.getfield 171, 3) := by decide +kernel
theorem dX10_unpack_62 : decode cX10_unpack 62 = .ok (.ifCond .le 9, 3) := by decide +kernel
theorem dX10_unpack_65 : decode cX10_unpack 65 = .ok (.aload_n 0, 1) := by decide +kernel
theorem dX10_unpack_66 : decode cX10_unpack 66 = .ok (.getfield 171, 3) := by decide +kernel
theorem dX10_unpack_69 : decode cX10_unpack 69 = .ok (.ineg, 1) := by decide +kernel
theorem dX10_unpack_70 : decode cX10_unpack 70 = .ok (.ireturn, 1) := by decide +kernel
theorem dX10_unpack_71 : decode cX10_unpack 71 = .ok (.iconst 0, 1) := by decide +kernel
theorem dX10_unpack_72 : decode cX10_unpack 72 = .ok (.istore_n 3, 1) := by decide +kernel
theorem dX10_unpack_73 : decode cX10_unpack 73 = .ok (.iload_n 3, 1) := by decide +kernel
theorem dX10_unpack_74 : decode cX10_unpack 74 = .ok (.iload_n 2, 1) := by decide +kernel
theorem dX10_unpack_75 : decode cX10_unpack 75 = .ok (.if_icmp .ge 21, 3) := by decide +kernel
theorem dX10_unpack_78 : decode cX10_unpack 78 = .ok (.aload_n 0, 1) := by decide +kernel
theorem dX10_unpack_79 : decode cX10_unpack 79 = .ok (.getfield 28, 3) := by decide +kernel
theorem dX10_unpack_82 : decode cX10_unpack 82 = .ok (.iload_n 3, 1) := by decide +kernel
theorem dX10_unpack_83 : decode cX10_unpack 83 = .ok (.aload_n 0, 1) := by decide +kernel
