theorem dX10_unpack_84 : decode cX10_unpack 84 = .ok (.getfield 48, 3) := by decide +kernel
theorem dX10_unpack_87 : decode cX10_unpack 87 = .ok (.iload_n 3, 1) := by decide +kernel
theorem dX10_unpack_88 : decode cX10_unpack 88 = .ok (.iaload, 1) := by decide +kernel
theorem dX10_unpack_89 : decode cX10_unpack 89 = .ok (.iastore, 1) := by decide +kernel
theorem dX10_unpack_90 : decode cX10_unpack 90 = .ok (.iinc 3 1, 3) := by decide +kernel
theorem dX10_unpack_93 : decode cX10_unpack 93 = .ok (.goto (-20), 3) := by decide +kernel
theorem dX10_unpack_96 : decode cX10_unpack 96 = .ok (.aload_n 0, 1) := by decide +kernel
theorem dX10_unpack_97 : decode cX10_unpack 97 = .ok (.iload_n 2, 1) := by decide +kernel
theorem dX10_unpack_98 : decode cX10_unpack 98 = .ok (.putfield 120, 3) := by decide +kernel
theorem dX10_unpack_101 : decode cX10_unpack 101 = .ok (.aload_n 0, 1) := by decide +kernel
theorem dX10_unpack_102 : decode cX10_unpack 102 = .ok (.getfield 186, 3) := by decide +kernel
theorem dX10_unpack_105 : decode cX10_unpack 105 = .ok (.istore_n 3, 1) := by decide +kernel
theorem dX10_unpack_106 : decode cX10_unpack 106 = .ok (.aload_n 0, 1) := by decide +kernel
theorem dX10_unpack_107 : decode cX10_unpack 107 = .ok (.aload_n 0, 1) := by decide +kernel
theorem dX10_unpack_108 : decode cX10_unpack 108 = .ok (.getfield 177, 3) := by decide +kernel
theorem dX10_unpack_111 : decode cX10_unpack 111 = .ok (.putfield 186, 3) := by decide +kernel
theorem dX10_unpack_114 : decode cX10_unpack 114 = .ok (.aload_n 0, 1) := by decide +kernel
theorem dX10_unpack_115 : decode cX10_unpack 115 = .ok (.getfield 177, 3) := by decide +kernel
theorem dX10_unpack_118 : decode cX10_unpack 118 = .ok (.iload_n 3, 1) := by decide +kernel
theorem dX10_unpack_119 : decode cX10_unpack 119 = .ok (.isub, 1) := by decide +kernel
theorem dX10_unpack_120 : decode cX10_unpack 120 = .ok (.ireturn, 1) := by decide +kernel
theorem dX10_place_0 : decode cX10_place 0 = .ok (.aload_n 0, 1) := by decide +kernel
theorem dX10_place_1 : decode cX10_place 1 = .ok (.iconst 0, 1) := by decide +kernel
theorem dX10_place_2 : decode cX10_place 2 = .ok (.putfield 99, 3) := by decide +kernel
theorem dX10_place_5 : decode cX10_place 5 = .ok (.aload_n 0, 1) := by decide +kernel
theorem dX10_place_6 : decode cX10_place 6 = .ok (.getfield 34, 3) := by decide +kernel
theorem dX10_place_9 : decode cX10_place 9 = .ok (.ireturn, 1) := by decide +kernel
set_option maxRecDepth 20000 in
theorem ggX10_best_X10_isWay : GoodIn wsX10_best wsX10_isWay := goodIn_r _ [6, 7, 58, 59, 60, 61, 62, 63, 64, 65, 66, 67, 68, 69, 70, 71, 72, 73, 74, 75, 76, 77, 78, 79, 80, 81, 82, 83, 84, 85, 86, 87, 88, 89, 90, 91, 92, 93, 94, 95, 96, 97] (by decide +kernel) (by decide +kernel)
set_option maxRecDepth 20000 in
theorem gX10_best_X10_isWay : GoodIn wsX10_best (wsV RX10 113 RX10 yX10_isWay wsX10_isWay) := goodIn_app (goodIn_of _ (by decide +kernel)) ggX10_best_X10_isWay
set_option maxRecDepth 20000 in
theorem ggX10_best_X10_refuses : GoodIn wsX10_best wsX10_refuses := goodIn_r _ [11, 12, 58, 59, 60, 61, 62, 63, 64, 65, 66, 67, 68, 69, 70, 71, 72, 73, 74, 75, 76, 77, 78, 79, 80, 81, 82, 83, 84, 85, 86, 87, 88, 89, 90, 91, 92, 93, 94, 95, 96, 97] (by decide +kernel) (by decide +kernel)
set_option maxRecDepth 20000 in
theorem gX10_best_X10_refuses : GoodIn wsX10_best (wsV RX10 105 RX10 yX10_refuses wsX10_refuses) := goodIn_app (goodIn_of _ (by decide +kernel)) ggX10_best_X10_refuses
set_option maxRecDepth 20000 in
theorem ggX10_best_X10_writes : GoodIn wsX10_best wsX10_writes := goodIn_r _ [16, 17, 18, 19, 20, 1, 21, 22, 23, 24, 25, 26, 27, 28, 29, 30, 31, 5, 32, 33, 34, 35, 36, 37, 38, 39, 40, 41, 42, 43, 44, 45, 46, 47, 48, 49, 50, 51, 52, 53, 54, 55, 56, 57, 58, 59, 60, 61, 62, 63, 64, 65, 66, 67, 68, 69, 70, 71, 72, 73, 74, 75, 76, 77, 78, 79, 80, 81, 82, 83, 84, 85, 86, 87, 88, 89, 90, 91, 92, 93, 94, 95, 96, 97] (by decide +kernel) (by decide +kernel)
set_option maxRecDepth 20000 in
theorem gX10_best_X10_writes : GoodIn wsX10_best (wsV RX10 165 RX10 yX10_writes wsX10_writes) := goodIn_app (goodIn_of _ (by decide +kernel)) ggX10_best_X10_writes
theorem dX10_best_0 : decode cX10_best 0 = .ok (.aload_n 0, 1) := by decide +kernel
theorem dX10_best_1 : decode cX10_best 1 = .ok (.aload_n 0, 1) := by decide +kernel
theorem dX10_best_2 : decode cX10_best 2 = .ok (.iload_n 1, 1) := by decide +kernel
theorem dX10_best_3 : decode cX10_best 3 = .ok (.invokevirtual 113, 3) := by decide +kernel
theorem dX10_best_6 : decode cX10_best 6 = .ok (.ifCond .eq 16, 3) := by decide +kernel
theorem dX10_best_9 : decode cX10_best 9 = .ok (.aload_n 0, 1) := by decide +kernel
theorem dX10_best_10 : decode cX10_best 10 = .ok (.iload_n 2, 1) := by decide +kernel
theorem dX10_best_11 : decode cX10_best 11 = .ok (.invokevirtual 113, 3) := by decide +kernel
theorem dX10_best_14 : decode cX10_best 14 = .ok (.ifCond .eq 8, 3) := by decide +kernel
theorem dX10_best_17 : decode cX10_best 17 = .ok (.iload_n 2, 1) := by decide +kernel
theorem dX10_best_18 : decode cX10_best 18 = .ok (.iload_n 1, 1) := by decide +kernel
theorem dX10_best_19 : decode cX10_best 19 = .ok (.if_icmp .ge 7, 3) := by decide +kernel
theorem dX10_best_22 : decode cX10_best 22 = .ok (.iconst 1, 1) := by decide +kernel
theorem dX10_best_23 : decode cX10_best 23 = .ok (.goto 4, 3) := by decide +kernel
theorem dX10_best_26 : decode cX10_best 26 = .ok (.iconst 0, 1) := by decide +kernel
theorem dX10_best_27 : decode cX10_best 27 = .ok (.invokevirtual 105, 3) := by decide +kernel
theorem dX10_best_30 : decode cX10_best 30 = .ok (.ifCond .eq 5, 3) := by decide +kernel
theorem dX10_best_33 : decode cX10_best 33 = .ok (.iconst 0, 1) := by decide +kernel
theorem dX10_best_34 : decode cX10_best 34 = .ok (.ireturn, 1) := by decide +kernel
theorem dX10_best_35 : decode cX10_best 35 = .ok (.iconst (-1), 1) := by decide +kernel
theorem dX10_best_36 : decode cX10_best 36 = .ok (.istore_n 3, 1) := by decide +kernel
theorem dX10_best_37 : decode cX10_best 37 = .ok (.iconst (-1), 1) := by decide +kernel
theorem dX10_best_38 : decode cX10_best 38 = .ok (.istore 4, 2) := by decide +kernel
theorem dX10_best_40 : decode cX10_best 40 = .ok (.iload_n 1, 1) := by decide +kernel
theorem dX10_best_41 : decode cX10_best 41 = .ok (.istore 5, 2) := by decide +kernel
theorem dX10_best_43 : decode cX10_best 43 = .ok (.iload 5, 2) := by decide +kernel
theorem dX10_best_45 : decode cX10_best 45 = .ok (.iload_n 2, 1) := by decide +kernel
theorem dX10_best_46 : decode cX10_best 46 = .ok (.if_icmp .gt 41, 3) := by decide +kernel
theorem dX10_best_49 : decode cX10_best 49 = .ok (.aload_n 0, 1) := by decide +kernel
theorem dX10_best_50 : decode cX10_best 50 = .ok (.iload 5, 2) := by decide +kernel
theorem dX10_best_52 : decode cX10_best 52 = .ok (.invokevirtual 165, 3) := by decide +kernel
theorem dX10_best_55 : decode cX10_best 55 = .ok (.ifCond .eq 26, 3) := by decide +kernel
theorem dX10_best_58 : decode cX10_best 58 = .ok (.iload 4, 2) := by decide +kernel
theorem dX10_best_60 : decode cX10_best 60 = .ok (.iconst (-1), 1) := by decide +kernel
theorem dX10_best_61 : decode cX10_best 61 = .ok (.if_icmp .eq 11, 3) := by decide +kernel
theorem dX10_best_64 : decode cX10_best 64 = .ok (.aload_n 0, 1) := by decide +kernel
theorem dX10_best_65 : decode cX10_best 65 = .ok (.getfield 141, 3) := by decide +kernel
theorem dX10_best_68 : decode cX10_best 68 = .ok (.iload_n 3, 1) := by decide +kernel
theorem dX10_best_69 : decode cX10_best 69 = .ok (.if_icmp .ge 12, 3) := by decide +kernel
theorem dX10_best_72 : decode cX10_best 72 = .ok (.iload 5, 2) := by decide +kernel
theorem dX10_best_74 : decode cX10_best 74 = .ok (.istore 4, 2) := by decide +kernel
theorem dX10_best_76 : decode cX10_best 76 = .ok (.aload_n 0, 1) := by decide +kernel
theorem dX10_best_77 : decode cX10_best 77 = .ok (.getfield 141, 3) := by decide +kernel
theorem dX10_best_80 : decode cX10_best 80 = .ok (.istore_n 3, 1) := by decide +kernel
theorem dX10_best_81 : decode cX10_best 81 = .ok (.iinc 5 1, 3) := by decide +kernel
theorem dX10_best_84 : decode cX10_best 84 = .ok (.goto (-41), 3) := by decide +kernel
theorem dX10_best_87 : decode cX10_best 87 = .ok (.iload 4, 2) := by decide +kernel
theorem dX10_best_89 : decode cX10_best 89 = .ok (.ireturn, 1) := by decide +kernel
set_option maxRecDepth 20000 in
theorem ggX10_sums_X10_told : GoodIn wsX10_sums wsX10_told := goodIn_r _ [9, 10, 30, 31, 32, 33, 34, 35, 36, 37, 38, 39, 40, 41, 42, 43, 44, 45, 46, 47, 48, 49, 50, 51, 52, 53, 54, 55, 56, 57, 58, 59, 60, 61, 62, 63, 64, 65, 66, 67, 68, 69] (by decide +kernel) (by decide +kernel)
set_option maxRecDepth 20000 in
theorem gX10_sums_X10_told : GoodIn wsX10_sums (wsV RX10 157 RX10 yX10_told wsX10_told) := goodIn_app (goodIn_of _ (by decide +kernel)) ggX10_sums_X10_told
set_option maxRecDepth 20000 in
theorem ggX10_sums_X10_bytes : GoodIn wsX10_sums wsX10_bytes := goodIn_r _ [14, 15, 16, 17, 18, 19, 20, 21, 22, 8, 23, 24, 25, 26, 27, 28, 29, 30, 31, 32, 33, 34, 35, 36, 37, 38, 39, 40, 41, 42, 43, 44, 45, 46, 47, 48, 49, 50, 51, 52, 53, 54, 55, 56, 57, 58, 59, 60, 61, 62, 63, 64, 65, 66, 67, 68, 69] (by decide +kernel) (by decide +kernel)
set_option maxRecDepth 20000 in
theorem gX10_sums_X10_bytes : GoodIn wsX10_sums (wsV RX10 161 RX10 yX10_bytes wsX10_bytes) := goodIn_app (goodIn_of _ (by decide +kernel)) ggX10_sums_X10_bytes
theorem dX10_sums_0 : decode cX10_sums 0 = .ok (.sipush 401, 3) := by decide +kernel
theorem dX10_sums_3 : decode cX10_sums 3 = .ok (.iload_n 1, 1) := by decide +kernel
theorem dX10_sums_4 : decode cX10_sums 4 = .ok (.imul, 1) := by decide +kernel
theorem dX10_sums_5 : decode cX10_sums 5 = .ok (.istore_n 2, 1) := by decide +kernel
theorem dX10_sums_6 : decode cX10_sums 6 = .ok (.aload_n 0, 1) := by decide +kernel
theorem dX10_sums_7 : decode cX10_sums 7 = .ok (.getfield 93, 3) := by decide +kernel
theorem dX10_sums_10 : decode cX10_sums 10 = .ok (.iload_n 2, 1) := by decide +kernel
theorem dX10_sums_11 : decode cX10_sums 11 = .ok (.iconst 0, 1) := by decide +kernel
theorem dX10_sums_12 : decode cX10_sums 12 = .ok (.iastore, 1) := by decide +kernel
theorem dX10_sums_13 : decode cX10_sums 13 = .ok (.aload_n 0, 1) := by decide +kernel
theorem dX10_sums_14 : decode cX10_sums 14 = .ok (.getfield 96, 3) := by decide +kernel
theorem dX10_sums_17 : decode cX10_sums 17 = .ok (.iload_n 2, 1) := by decide +kernel
theorem dX10_sums_18 : decode cX10_sums 18 = .ok (.aload_n 0, 1) := by decide +kernel
theorem dX10_sums_19 : decode cX10_sums 19 = .ok (.getfield 120, 3) := by decide +kernel
theorem dX10_sums_22 : decode cX10_sums 22 = .ok (.iadd, 1) := by decide +kernel
theorem dX10_sums_23 : decode cX10_sums 23 = .ok (.iconst 0, 1) := by decide +kernel
theorem dX10_sums_24 : decode cX10_sums 24 = .ok (.iastore, 1) := by decide +kernel
theorem dX10_sums_25 : decode cX10_sums 25 = .ok (.iconst 0, 1) := by decide +kernel
theorem dX10_sums_26 : decode cX10_sums 26 = .ok (.istore_n 3, 1) := by decide +kernel
theorem dX10_sums_27 : decode cX10_sums 27 = .ok (.iload_n 3, 1) := by decide +kernel
theorem dX10_sums_28 : decode cX10_sums 28 = .ok (.aload_n 0, 1) := by decide +kernel
theorem dX10_sums_29 : decode cX10_sums 29 = .ok (.getfield 120, 3) := by decide +kernel
theorem dX10_sums_32 : decode cX10_sums 32 = .ok (.if_icmp .ge 85, 3) := by decide +kernel
theorem dX10_sums_35 : decode cX10_sums 35 = .ok (.aload_n 0, 1) := by decide +kernel
theorem dX10_sums_36 : decode cX10_sums 36 = .ok (.iload_n 1, 1) := by decide +kernel
theorem dX10_sums_37 : decode cX10_sums 37 = .ok (.aload_n 0, 1) := by decide +kernel
theorem dX10_sums_38 : decode cX10_sums 38 = .ok (.iload_n 1, 1) := by decide +kernel
theorem dX10_sums_39 : decode cX10_sums 39 = .ok (.aload_n 0, 1) := by decide +kernel
theorem dX10_sums_40 : decode cX10_sums 40 = .ok (.getfield 28, 3) := by decide +kernel
theorem dX10_sums_43 : decode cX10_sums 43 = .ok (.iload_n 3, 1) := by decide +kernel
theorem dX10_sums_44 : decode cX10_sums 44 = .ok (.iaload, 1) := by decide +kernel
theorem dX10_sums_45 : decode cX10_sums 45 = .ok (.iload_n 3, 1) := by decide +kernel
theorem dX10_sums_46 : decode cX10_sums 46 = .ok (.ifCond .ne 7, 3) := by decide +kernel
theorem dX10_sums_49 : decode cX10_sums 49 = .ok (.iconst 0, 1) := by decide +kernel
theorem dX10_sums_50 : decode cX10_sums 50 = .ok (.goto 11, 3) := by decide +kernel
theorem dX10_sums_53 : decode cX10_sums 53 = .ok (.aload_n 0, 1) := by decide +kernel
theorem dX10_sums_54 : decode cX10_sums 54 = .ok (.getfield 28, 3) := by decide +kernel
theorem dX10_sums_57 : decode cX10_sums 57 = .ok (.iload_n 3, 1) := by decide +kernel
theorem dX10_sums_58 : decode cX10_sums 58 = .ok (.iconst 1, 1) := by decide +kernel
theorem dX10_sums_59 : decode cX10_sums 59 = .ok (.isub, 1) := by decide +kernel
theorem dX10_sums_60 : decode cX10_sums 60 = .ok (.iaload, 1) := by decide +kernel
theorem dX10_sums_61 : decode cX10_sums 61 = .ok (.invokevirtual 157, 3) := by decide +kernel
theorem dX10_sums_64 : decode cX10_sums 64 = .ok (.iconst 0, 1) := by decide +kernel
theorem dX10_sums_65 : decode cX10_sums 65 = .ok (.invokevirtual 161, 3) := by decide +kernel
theorem dX10_sums_68 : decode cX10_sums 68 = .ok (.istore 4, 2) := by decide +kernel
theorem dX10_sums_70 : decode cX10_sums 70 = .ok (.aload_n 0, 1) := by decide +kernel
theorem dX10_sums_71 : decode cX10_sums 71 = .ok (.getfield 93, 3) := by decide +kernel
theorem dX10_sums_74 : decode cX10_sums 74 = .ok (.iload_n 2, 1) := by decide +kernel
theorem dX10_sums_75 : decode cX10_sums 75 = .ok (.iload_n 3, 1) := by decide +kernel
theorem dX10_sums_76 : decode cX10_sums 76 = .ok (.iadd, 1) := by decide +kernel
theorem dX10_sums_77 : decode cX10_sums 77 = .ok (.iconst 1, 1) := by decide +kernel
theorem dX10_sums_78 : decode cX10_sums 78 = .ok (.iadd, 1) := by decide +kernel
theorem dX10_sums_79 : decode cX10_sums 79 = .ok (.aload_n 0, 1) := by decide +kernel
theorem dX10_sums_80 : decode cX10_sums 80 = .ok (.getfield 93, 3) := by decide +kernel
theorem dX10_sums_83 : decode cX10_sums 83 = .ok (.iload_n 2, 1) := by decide +kernel
theorem dX10_sums_84 : decode cX10_sums 84 = .ok (.iload_n 3, 1) := by decide +kernel
theorem dX10_sums_85 : decode cX10_sums 85 = .ok (.iadd, 1) := by decide +kernel
theorem dX10_sums_86 : decode cX10_sums 86 = .ok (.iaload, 1) := by decide +kernel
theorem dX10_sums_87 : decode cX10_sums 87 = .ok (.ifCond .lt 8, 3) := by decide +kernel
theorem dX10_sums_90 : decode cX10_sums 90 = .ok (.iload 4, 2) := by decide +kernel
theorem dX10_sums_92 : decode cX10_sums 92 = .ok (.ifCond .ne 7, 3) := by decide +kernel
theorem dX10_sums_95 : decode cX10_sums 95 = .ok (.iconst (-1), 1) := by decide +kernel
theorem dX10_sums_96 : decode cX10_sums 96 = .ok (.goto 14, 3) := by decide +kernel
theorem dX10_sums_99 : decode cX10_sums 99 = .ok (.aload_n 0, 1) := by decide +kernel
theorem dX10_sums_100 : decode cX10_sums 100 = .ok (.getfield 93, 3) := by decide +kernel
theorem dX10_sums_103 : decode cX10_sums 103 = .ok (.iload_n 2, 1) := by decide +kernel
theorem dX10_sums_104 : decode cX10_sums 104 = .ok (.iload_n 3, 1) := by decide +kernel
theorem dX10_sums_105 : decode cX10_sums 105 = .ok (.iadd, 1) := by decide +kernel
theorem dX10_sums_106 : decode cX10_sums 106 = .ok (.iaload, 1) := by decide +kernel
theorem dX10_sums_107 : decode cX10_sums 107 = .ok (.iload 4, 2) := by decide +kernel
theorem dX10_sums_109 : decode cX10_sums 109 = .ok (.iadd, 1) := by decide +kernel
theorem dX10_sums_110 : decode cX10_sums 110 = .ok (.iastore, 1) := by decide +kernel
theorem dX10_sums_111 : decode cX10_sums 111 = .ok (.iinc 3 1, 3) := by decide +kernel
theorem dX10_sums_114 : decode cX10_sums 114 = .ok (.goto (-87), 3) := by decide +kernel
theorem dX10_sums_117 : decode cX10_sums 117 = .ok (.iconst 0, 1) := by decide +kernel
theorem dX10_sums_118 : decode cX10_sums 118 = .ok (.istore_n 3, 1) := by decide +kernel
theorem dX10_sums_119 : decode cX10_sums 119 = .ok (.aload_n 0, 1) := by decide +kernel
theorem dX10_sums_120 : decode cX10_sums 120 = .ok (.getfield 120, 3) := by decide +kernel
theorem dX10_sums_123 : decode cX10_sums 123 = .ok (.iconst 1, 1) := by decide +kernel
theorem dX10_sums_124 : decode cX10_sums 124 = .ok (.isub, 1) := by decide +kernel
theorem dX10_sums_125 : decode cX10_sums 125 = .ok (.istore 4, 2) := by decide +kernel
theorem dX10_sums_127 : decode cX10_sums 127 = .ok (.iload 4, 2) := by decide +kernel
theorem dX10_sums_129 : decode cX10_sums 129 = .ok (.ifCond .lt 106, 3) := by decide +kernel
theorem dX10_sums_132 : decode cX10_sums 132 = .ok (.aload_n 0, 1) := by decide +kernel
theorem dX10_sums_133 : decode cX10_sums 133 = .ok (.iload_n 1, 1) := by decide +kernel
theorem dX10_sums_134 : decode cX10_sums 134 = .ok (.aload_n 0, 1) := by decide +kernel
theorem dX10_sums_135 : decode cX10_sums 135 = .ok (.getfield 28, 3) := by decide +kernel
theorem dX10_sums_138 : decode cX10_sums 138 = .ok (.iload 4, 2) := by decide +kernel
theorem dX10_sums_140 : decode cX10_sums 140 = .ok (.iaload, 1) := by decide +kernel
theorem dX10_sums_141 : decode cX10_sums 141 = .ok (.iconst 0, 1) := by decide +kernel
theorem dX10_sums_142 : decode cX10_sums 142 = .ok (.invokevirtual 161, 3) := by decide +kernel
theorem dX10_sums_145 : decode cX10_sums 145 = .ok (.istore 5, 2) := by decide +kernel
theorem dX10_sums_147 : decode cX10_sums 147 = .ok (.aload_n 0, 1) := by decide +kernel
theorem dX10_sums_148 : decode cX10_sums 148 = .ok (.getfield 96, 3) := by decide +kernel
theorem dX10_sums_151 : decode cX10_sums 151 = .ok (.iload_n 2, 1) := by decide +kernel
theorem dX10_sums_152 : decode cX10_sums 152 = .ok (.iload 4, 2) := by decide +kernel
theorem dX10_sums_154 : decode cX10_sums 154 = .ok (.iadd, 1) := by decide +kernel
theorem dX10_sums_155 : decode cX10_sums 155 = .ok (.iload_n 3, 1) := by decide +kernel
theorem dX10_sums_156 : decode cX10_sums 156 = .ok (.ifCond .lt 8, 3) := by decide +kernel
theorem dX10_sums_159 : decode cX10_sums 159 = .ok (.iload 5, 2) := by decide +kernel
theorem dX10_sums_161 : decode cX10_sums 161 = .ok (.ifCond .ne 7, 3) := by decide +kernel
theorem dX10_sums_164 : decode cX10_sums 164 = .ok (.iconst (-1), 1) := by decide +kernel
theorem dX10_sums_165 : decode cX10_sums 165 = .ok (.goto 7, 3) := by decide +kernel
theorem dX10_sums_168 : decode cX10_sums 168 = .ok (.iload_n 3, 1) := by decide +kernel
theorem dX10_sums_169 : decode cX10_sums 169 = .ok (.iload 5, 2) := by decide +kernel
theorem dX10_sums_171 : decode cX10_sums 171 = .ok (.iadd, 1) := by decide +kernel
theorem dX10_sums_172 : decode cX10_sums 172 = .ok (.iastore, 1) := by decide +kernel
theorem dX10_sums_173 : decode cX10_sums 173 = .ok (.iload 4, 2) := by decide +kernel
theorem dX10_sums_175 : decode cX10_sums 175 = .ok (.ifCond .ne 7, 3) := by decide +kernel
theorem dX10_sums_178 : decode cX10_sums 178 = .ok (.iconst 0, 1) := by decide +kernel
theorem dX10_sums_179 : decode cX10_sums 179 = .ok (.goto 30, 3) := by decide +kernel
theorem dX10_sums_182 : decode cX10_sums 182 = .ok (.aload_n 0, 1) := by decide +kernel
theorem dX10_sums_183 : decode cX10_sums 183 = .ok (.iload_n 1, 1) := by decide +kernel
theorem dX10_sums_184 : decode cX10_sums 184 = .ok (.aload_n 0, 1) := by decide +kernel
theorem dX10_sums_185 : decode cX10_sums 185 = .ok (.iload_n 1, 1) := by decide +kernel
theorem dX10_sums_186 : decode cX10_sums 186 = .ok (.aload_n 0, 1) := by decide +kernel
theorem dX10_sums_187 : decode cX10_sums 187 = .ok (.getfield 28, 3) := by decide +kernel
theorem dX10_sums_190 : decode cX10_sums 190 = .ok (.iload 4, 2) := by decide +kernel
theorem dX10_sums_192 : decode cX10_sums 192 = .ok (.iaload, 1) := by decide +kernel
theorem dX10_sums_193 : decode cX10_sums 193 = .ok (.aload_n 0, 1) := by decide +kernel
theorem dX10_sums_194 : decode cX10_sums 194 = .ok (.getfield 28, 3) := by decide +kernel
theorem dX10_sums_197 : decode cX10_sums 197 = .ok (.iload 4, 2) := by decide +kernel
theorem dX10_sums_199 : decode cX10_sums 199 = .ok (.iconst 1, 1) := by decide +kernel
theorem dX10_sums_200 : decode cX10_sums 200 = .ok (.isub, 1) := by decide +kernel
theorem dX10_sums_201 : decode cX10_sums 201 = .ok (.iaload, 1) := by decide +kernel
theorem dX10_sums_202 : decode cX10_sums 202 = .ok (.invokevirtual 157, 3) := by decide +kernel
theorem dX10_sums_205 : decode cX10_sums 205 = .ok (.iconst 0, 1) := by decide +kernel
theorem dX10_sums_206 : decode cX10_sums 206 = .ok (.invokevirtual 161, 3) := by decide +kernel
theorem dX10_sums_209 : decode cX10_sums 209 = .ok (.istore 6, 2) := by decide +kernel
theorem dX10_sums_211 : decode cX10_sums 211 = .ok (.iload_n 3, 1) := by decide +kernel
theorem dX10_sums_212 : decode cX10_sums 212 = .ok (.ifCond .lt 8, 3) := by decide +kernel
theorem dX10_sums_215 : decode cX10_sums 215 = .ok (.iload 6, 2) := by decide +kernel
theorem dX10_sums_217 : decode cX10_sums 217 = .ok (.ifCond .ne 7, 3) := by decide +kernel
theorem dX10_sums_220 : decode cX10_sums 220 = .ok (.iconst (-1), 1) := by decide +kernel
theorem dX10_sums_221 : decode cX10_sums 221 = .ok (.goto 7, 3) := by decide +kernel
theorem dX10_sums_224 : decode cX10_sums 224 = .ok (.iload_n 3, 1) := by decide +kernel
theorem dX10_sums_225 : decode cX10_sums 225 = .ok (.iload 6, 2) := by decide +kernel
theorem dX10_sums_227 : decode cX10_sums 227 = .ok (.iadd, 1) := by decide +kernel
theorem dX10_sums_228 : decode cX10_sums 228 = .ok (.istore_n 3, 1) := by decide +kernel
theorem dX10_sums_229 : decode cX10_sums 229 = .ok (.iinc 4 (-1), 3) := by decide +kernel
theorem dX10_sums_232 : decode cX10_sums 232 = .ok (.goto (-105), 3) := by decide +kernel
theorem dX10_sums_235 : decode cX10_sums 235 = .ok (.return_, 1) := by decide +kernel
set_option maxRecDepth 20000 in
theorem ggX10_bestRun_X10_sums : GoodIn wsX10_bestRun wsX10_sums := goodIn_r _ [14, 8, 9, 7, 15, 16, 17, 18, 13, 19, 20, 21, 22, 23, 24, 25, 26, 27, 28, 29, 30, 31, 32, 33, 34, 35, 36, 37, 38, 39, 40, 41, 42, 43, 44, 45, 46, 47, 48, 49, 50, 51, 52, 53, 54, 55, 56, 57, 58, 59, 60, 61, 62, 63, 64, 65, 66, 67, 68, 69, 70, 71, 72, 73, 74, 75, 76, 77, 78, 79] (by decide +kernel) (by decide +kernel)
set_option maxRecDepth 20000 in
theorem gX10_bestRun_X10_sums : GoodIn wsX10_bestRun (wsV RX10 206 RX10 yX10_sums wsX10_sums) := goodIn_app (goodIn_of _ (by decide +kernel)) ggX10_bestRun_X10_sums
theorem dX10_bestRun_0 : decode cX10_bestRun 0 = .ok (.aload_n 0, 1) := by decide +kernel
theorem dX10_bestRun_1 : decode cX10_bestRun 1 = .ok (.iconst 0, 1) := by decide +kernel
theorem dX10_bestRun_2 : decode cX10_bestRun 2 = .ok (.putfield 99, 3) := by decide +kernel
theorem dX10_bestRun_5 : decode cX10_bestRun 5 = .ok (.iconst (-1), 1) := by decide +kernel
theorem dX10_bestRun_6 : decode cX10_bestRun 6 = .ok (.istore_n 1, 1) := by decide +kernel
theorem dX10_bestRun_7 : decode cX10_bestRun 7 = .ok (.aload_n 0, 1) := by decide +kernel
theorem dX10_bestRun_8 : decode cX10_bestRun 8 = .ok (.iconst (-1), 1) := by decide +kernel
theorem dX10_bestRun_9 : decode cX10_bestRun 9 = .ok (.putfield 38, 3) := by decide +kernel
theorem dX10_bestRun_12 : decode cX10_bestRun 12 = .ok (.aload_n 0, 1) := by decide +kernel
theorem dX10_bestRun_13 : decode cX10_bestRun 13 = .ok (.iconst (-1), 1) := by decide +kernel
theorem dX10_bestRun_14 : decode cX10_bestRun 14 = .ok (.putfield 41, 3) := by decide +kernel
theorem dX10_bestRun_17 : decode cX10_bestRun 17 = .ok (.aload_n 0, 1) := by decide +kernel
theorem dX10_bestRun_18 : decode cX10_bestRun 18 = .ok (.iconst (-1), 1) := by decide +kernel
theorem dX10_bestRun_19 : decode cX10_bestRun 19 = .ok (.putfield 44, 3) := by decide +kernel
theorem dX10_bestRun_22 : decode cX10_bestRun 22 = .ok (.iconst 0, 1) := by decide +kernel
theorem dX10_bestRun_23 : decode cX10_bestRun 23 = .ok (.istore_n 2, 1) := by decide +kernel
theorem dX10_bestRun_24 : decode cX10_bestRun 24 = .ok (.iload_n 2, 1) := by decide +kernel
theorem dX10_bestRun_25 : decode cX10_bestRun 25 = .ok (.aload_n 0, 1) := by decide +kernel
theorem dX10_bestRun_26 : decode cX10_bestRun 26 = .ok (.getfield 102, 3) := by decide +kernel
theorem dX10_bestRun_29 : decode cX10_bestRun 29 = .ok (.if_icmp .ge 23, 3) := by decide +kernel
theorem dX10_bestRun_32 : decode cX10_bestRun 32 = .ok (.aload_n 0, 1) := by decide +kernel
theorem dX10_bestRun_33 : decode cX10_bestRun 33 = .ok (.getfield 7, 3) := by decide +kernel
theorem dX10_bestRun_36 : decode cX10_bestRun 36 = .ok (.iload_n 2, 1) := by decide +kernel
theorem dX10_bestRun_37 : decode cX10_bestRun 37 = .ok (.iaload, 1) := by decide +kernel
theorem dX10_bestRun_38 : decode cX10_bestRun 38 = .ok (.ifCond .ne 8, 3) := by decide +kernel
theorem dX10_bestRun_41 : decode cX10_bestRun 41 = .ok (.aload_n 0, 1) := by decide +kernel
theorem dX10_bestRun_42 : decode cX10_bestRun 42 = .ok (.iload_n 2, 1) := by decide +kernel
theorem dX10_bestRun_43 : decode cX10_bestRun 43 = .ok (.invokevirtual 206, 3) := by decide +kernel
theorem dX10_bestRun_46 : decode cX10_bestRun 46 = .ok (.iinc 2 1, 3) := by decide +kernel
theorem dX10_bestRun_49 : decode cX10_bestRun 49 = .ok (.goto (-25), 3) := by decide +kernel
theorem dX10_bestRun_52 : decode cX10_bestRun 52 = .ok (.iconst 0, 1) := by decide +kernel
theorem dX10_bestRun_53 : decode cX10_bestRun 53 = .ok (.istore_n 2, 1) := by decide +kernel
theorem dX10_bestRun_54 : decode cX10_bestRun 54 = .ok (.iload_n 2, 1) := by decide +kernel
theorem dX10_bestRun_55 : decode cX10_bestRun 55 = .ok (.aload_n 0, 1) := by decide +kernel
theorem dX10_bestRun_56 : decode cX10_bestRun 56 = .ok (.getfield 120, 3) := by decide +kernel
theorem dX10_bestRun_59 : decode cX10_bestRun 59 = .ok (.if_icmp .gt 154, 3) := by decide +kernel
theorem dX10_bestRun_62 : decode cX10_bestRun 62 = .ok (.iconst 0, 1) := by decide +kernel
theorem dX10_bestRun_63 : decode cX10_bestRun 63 = .ok (.istore_n 3, 1) := by decide +kernel
theorem dX10_bestRun_64 : decode cX10_bestRun 64 = .ok (.iload_n 3, 1) := by decide +kernel
theorem dX10_bestRun_65 : decode cX10_bestRun 65 = .ok (.aload_n 0, 1) := by decide +kernel
theorem dX10_bestRun_66 : decode cX10_bestRun 66 = .ok (.getfield 102, 3) := by decide +kernel
theorem dX10_bestRun_69 : decode cX10_bestRun 69 = .ok (.if_icmp .ge 138, 3) := by decide +kernel
theorem dX10_bestRun_72 : decode cX10_bestRun 72 = .ok (.iconst 0, 1) := by decide +kernel
theorem dX10_bestRun_73 : decode cX10_bestRun 73 = .ok (.istore 4, 2) := by decide +kernel
theorem dX10_bestRun_75 : decode cX10_bestRun 75 = .ok (.iload 4, 2) := by decide +kernel
theorem dX10_bestRun_77 : decode cX10_bestRun 77 = .ok (.aload_n 0, 1) := by decide +kernel
theorem dX10_bestRun_78 : decode cX10_bestRun 78 = .ok (.getfield 102, 3) := by decide +kernel
theorem dX10_bestRun_81 : decode cX10_bestRun 81 = .ok (.if_icmp .ge 120, 3) := by decide +kernel
theorem dX10_bestRun_84 : decode cX10_bestRun 84 = .ok (.aload_n 0, 1) := by decide +kernel
theorem dX10_bestRun_85 : decode cX10_bestRun 85 = .ok (.getfield 7, 3) := by decide +kernel
theorem dX10_bestRun_88 : decode cX10_bestRun 88 = .ok (.iload_n 3, 1) := by decide +kernel
theorem dX10_bestRun_89 : decode cX10_bestRun 89 = .ok (.iaload, 1) := by decide +kernel
theorem dX10_bestRun_90 : decode cX10_bestRun 90 = .ok (.ifCond .ne 111, 3) := by decide +kernel
theorem dX10_bestRun_93 : decode cX10_bestRun 93 = .ok (.aload_n 0, 1) := by decide +kernel
theorem dX10_bestRun_94 : decode cX10_bestRun 94 = .ok (.getfield 93, 3) := by decide +kernel
theorem dX10_bestRun_97 : decode cX10_bestRun 97 = .ok (.sipush 401, 3) := by decide +kernel
theorem dX10_bestRun_100 : decode cX10_bestRun 100 = .ok (.iload_n 3, 1) := by decide +kernel
theorem dX10_bestRun_101 : decode cX10_bestRun 101 = .ok (.imul, 1) := by decide +kernel
theorem dX10_bestRun_102 : decode cX10_bestRun 102 = .ok (.iload_n 2, 1) := by decide +kernel
theorem dX10_bestRun_103 : decode cX10_bestRun 103 = .ok (.iadd, 1) := by decide +kernel
theorem dX10_bestRun_104 : decode cX10_bestRun 104 = .ok (.iaload, 1) := by decide +kernel
theorem dX10_bestRun_105 : decode cX10_bestRun 105 = .ok (.ifCond .lt 96, 3) := by decide +kernel
theorem dX10_bestRun_108 : decode cX10_bestRun 108 = .ok (.aload_n 0, 1) := by decide +kernel
theorem dX10_bestRun_109 : decode cX10_bestRun 109 = .ok (.getfield 7, 3) := by decide +kernel
theorem dX10_bestRun_112 : decode cX10_bestRun 112 = .ok (.iload 4, 2) := by decide +kernel
theorem dX10_bestRun_114 : decode cX10_bestRun 114 = .ok (.iaload, 1) := by decide +kernel
theorem dX10_bestRun_115 : decode cX10_bestRun 115 = .ok (.ifCond .ne 80, 3) := by decide +kernel
theorem dX10_bestRun_118 : decode cX10_bestRun 118 = .ok (.aload_n 0, 1) := by decide +kernel
theorem dX10_bestRun_119 : decode cX10_bestRun 119 = .ok (.getfield 96, 3) := by decide +kernel
theorem dX10_bestRun_122 : decode cX10_bestRun 122 = .ok (.sipush 401, 3) := by decide +kernel
theorem dX10_bestRun_125 : decode cX10_bestRun 125 = .ok (.iload 4, 2) := by decide +kernel
theorem dX10_bestRun_127 : decode cX10_bestRun 127 = .ok (.imul, 1) := by decide +kernel
theorem dX10_bestRun_128 : decode cX10_bestRun 128 = .ok (.iload_n 2, 1) := by decide +kernel
theorem dX10_bestRun_129 : decode cX10_bestRun 129 = .ok (.iadd, 1) := by decide +kernel
theorem dX10_bestRun_130 : decode cX10_bestRun 130 = .ok (.iaload, 1) := by decide +kernel
theorem dX10_bestRun_131 : decode cX10_bestRun 131 = .ok (.ifCond .ge 6, 3) := by decide +kernel
theorem dX10_bestRun_134 : decode cX10_bestRun 134 = .ok (.goto 61, 3) := by decide +kernel
theorem dX10_bestRun_137 : decode cX10_bestRun 137 = .ok (.aload_n 0, 1) := by decide +kernel
theorem dX10_bestRun_138 : decode cX10_bestRun 138 = .ok (.getfield 93, 3) := by decide +kernel
theorem dX10_bestRun_141 : decode cX10_bestRun 141 = .ok (.sipush 401, 3) := by decide +kernel
theorem dX10_bestRun_144 : decode cX10_bestRun 144 = .ok (.iload_n 3, 1) := by decide +kernel
theorem dX10_bestRun_145 : decode cX10_bestRun 145 = .ok (.imul, 1) := by decide +kernel
theorem dX10_bestRun_146 : decode cX10_bestRun 146 = .ok (.iload_n 2, 1) := by decide +kernel
theorem dX10_bestRun_147 : decode cX10_bestRun 147 = .ok (.iadd, 1) := by decide +kernel
theorem dX10_bestRun_148 : decode cX10_bestRun 148 = .ok (.iaload, 1) := by decide +kernel
theorem dX10_bestRun_149 : decode cX10_bestRun 149 = .ok (.aload_n 0, 1) := by decide +kernel
theorem dX10_bestRun_150 : decode cX10_bestRun 150 = .ok (.getfield 96, 3) := by decide +kernel
theorem dX10_bestRun_153 : decode cX10_bestRun 153 = .ok (.sipush 401, 3) := by decide +kernel
theorem dX10_bestRun_156 : decode cX10_bestRun 156 = .ok (.iload 4, 2) := by decide +kernel
theorem dX10_bestRun_158 : decode cX10_bestRun 158 = .ok (.imul, 1) := by decide +kernel
theorem dX10_bestRun_159 : decode cX10_bestRun 159 = .ok (.iload_n 2, 1) := by decide +kernel
theorem dX10_bestRun_160 : decode cX10_bestRun 160 = .ok (.iadd, 1) := by decide +kernel
theorem dX10_bestRun_161 : decode cX10_bestRun 161 = .ok (.iaload, 1) := by decide +kernel
theorem dX10_bestRun_162 : decode cX10_bestRun 162 = .ok (.iadd, 1) := by decide +kernel
theorem dX10_bestRun_163 : decode cX10_bestRun 163 = .ok (.istore 5, 2) := by decide +kernel
theorem dX10_bestRun_165 : decode cX10_bestRun 165 = .ok (.iload_n 1, 1) := by decide +kernel
theorem dX10_bestRun_166 : decode cX10_bestRun 166 = .ok (.iconst (-1), 1) := by decide +kernel
theorem dX10_bestRun_167 : decode cX10_bestRun 167 = .ok (.if_icmp .eq 9, 3) := by decide +kernel
theorem dX10_bestRun_170 : decode cX10_bestRun 170 = .ok (.iload 5, 2) := by decide +kernel
theorem dX10_bestRun_172 : decode cX10_bestRun 172 = .ok (.iload_n 1, 1) := by decide +kernel
theorem dX10_bestRun_173 : decode cX10_bestRun 173 = .ok (.if_icmp .ge 22, 3) := by decide +kernel
theorem dX10_bestRun_176 : decode cX10_bestRun 176 = .ok (.iload 5, 2) := by decide +kernel
theorem dX10_bestRun_178 : decode cX10_bestRun 178 = .ok (.istore_n 1, 1) := by decide +kernel
theorem dX10_bestRun_179 : decode cX10_bestRun 179 = .ok (.aload_n 0, 1) := by decide +kernel
theorem dX10_bestRun_180 : decode cX10_bestRun 180 = .ok (.iload_n 2, 1) := by decide +kernel
theorem dX10_bestRun_181 : decode cX10_bestRun 181 = .ok (.putfield 38, 3) := by decide +kernel
theorem dX10_bestRun_184 : decode cX10_bestRun 184 = .ok (.aload_n 0, 1) := by decide +kernel
theorem dX10_bestRun_185 : decode cX10_bestRun 185 = .ok (.iload_n 3, 1) := by decide +kernel
theorem dX10_bestRun_186 : decode cX10_bestRun 186 = .ok (.putfield 41, 3) := by decide +kernel
theorem dX10_bestRun_189 : decode cX10_bestRun 189 = .ok (.aload_n 0, 1) := by decide +kernel
theorem dX10_bestRun_190 : decode cX10_bestRun 190 = .ok (.iload 4, 2) := by decide +kernel
theorem dX10_bestRun_192 : decode cX10_bestRun 192 = .ok (.putfield 44, 3) := by decide +kernel
theorem dX10_bestRun_195 : decode cX10_bestRun 195 = .ok (.iinc 4 1, 3) := by decide +kernel
theorem dX10_bestRun_198 : decode cX10_bestRun 198 = .ok (.goto (-123), 3) := by decide +kernel
theorem dX10_bestRun_201 : decode cX10_bestRun 201 = .ok (.iinc 3 1, 3) := by decide +kernel
theorem dX10_bestRun_204 : decode cX10_bestRun 204 = .ok (.goto (-140), 3) := by decide +kernel
theorem dX10_bestRun_207 : decode cX10_bestRun 207 = .ok (.iinc 2 1, 3) := by decide +kernel
theorem dX10_bestRun_210 : decode cX10_bestRun 210 = .ok (.goto (-156), 3) := by decide +kernel
theorem dX10_bestRun_213 : decode cX10_bestRun 213 = .ok (.iload_n 1, 1) := by decide +kernel
theorem dX10_bestRun_214 : decode cX10_bestRun 214 = .ok (.ireturn, 1) := by decide +kernel
set_option maxRecDepth 20000 in
theorem ggX10_chosen_X10_refuses : GoodIn wsX10_chosen wsX10_refuses := goodIn_r _ [8, 9, 10, 11, 12, 13, 14, 15, 16, 17, 18, 19, 20, 21, 22, 23, 24, 25, 26, 27, 28, 29, 30, 31, 32, 33, 34, 35, 36, 37, 38, 39, 40, 41, 42, 43, 44, 45, 46, 47, 48, 49] (by decide +kernel) (by decide +kernel)
set_option maxRecDepth 20000 in
theorem gX10_chosen_X10_refuses : GoodIn wsX10_chosen (wsV RX10 105 RX10 yX10_refuses wsX10_refuses) := goodIn_app (goodIn_of _ (by decide +kernel)) ggX10_chosen_X10_refuses
theorem dX10_chosen_0 : decode cX10_chosen 0 = .ok (.aload_n 0, 1) := by decide +kernel
theorem dX10_chosen_1 : decode cX10_chosen 1 = .ok (.iload_n 1, 1) := by decide +kernel
theorem dX10_chosen_2 : decode cX10_chosen 2 = .ok (.ifCond .lt 8, 3) := by decide +kernel
theorem dX10_chosen_5 : decode cX10_chosen 5 = .ok (.iload_n 1, 1) := by decide +kernel
theorem dX10_chosen_6 : decode cX10_chosen 6 = .ok (.iconst 2, 1) := by decide +kernel
theorem dX10_chosen_7 : decode cX10_chosen 7 = .ok (.if_icmp .le 7, 3) := by decide +kernel
theorem dX10_chosen_10 : decode cX10_chosen 10 = .ok (.iconst 1, 1) := by decide +kernel
theorem dX10_chosen_11 : decode cX10_chosen 11 = .ok (.goto 4, 3) := by decide +kernel
theorem dX10_chosen_14 : decode cX10_chosen 14 = .ok (.iconst 0, 1) := by decide +kernel
theorem dX10_chosen_15 : decode cX10_chosen 15 = .ok (.invokevirtual 105, 3) := by decide +kernel
theorem dX10_chosen_18 : decode cX10_chosen 18 = .ok (.ifCond .eq 5, 3) := by decide +kernel
theorem dX10_chosen_21 : decode cX10_chosen 21 = .ok (.iconst 0, 1) := by decide +kernel
theorem dX10_chosen_22 : decode cX10_chosen 22 = .ok (.ireturn, 1) := by decide +kernel
theorem dX10_chosen_23 : decode cX10_chosen 23 = .ok (.iload_n 1, 1) := by decide +kernel
theorem dX10_chosen_24 : decode cX10_chosen 24 = .ok (.ifCond .ne 10, 3) := by decide +kernel
theorem dX10_chosen_27 : decode cX10_chosen 27 = .ok (.aload_n 0, 1) := by decide +kernel
theorem dX10_chosen_28 : decode cX10_chosen 28 = .ok (.getfield 38, 3) := by decide +kernel
theorem dX10_chosen_31 : decode cX10_chosen 31 = .ok (.goto 19, 3) := by decide +kernel
theorem dX10_chosen_34 : decode cX10_chosen 34 = .ok (.iload_n 1, 1) := by decide +kernel
theorem dX10_chosen_35 : decode cX10_chosen 35 = .ok (.iconst 1, 1) := by decide +kernel
theorem dX10_chosen_36 : decode cX10_chosen 36 = .ok (.if_icmp .ne 10, 3) := by decide +kernel
theorem dX10_chosen_39 : decode cX10_chosen 39 = .ok (.aload_n 0, 1) := by decide +kernel
theorem dX10_chosen_40 : decode cX10_chosen 40 = .ok (.getfield 41, 3) := by decide +kernel
theorem dX10_chosen_43 : decode cX10_chosen 43 = .ok (.goto 7, 3) := by decide +kernel
theorem dX10_chosen_46 : decode cX10_chosen 46 = .ok (.aload_n 0, 1) := by decide +kernel
theorem dX10_chosen_47 : decode cX10_chosen 47 = .ok (.getfield 44, 3) := by decide +kernel
theorem dX10_chosen_50 : decode cX10_chosen 50 = .ok (.ireturn, 1) := by decide +kernel
set_option maxRecDepth 20000 in
theorem ggX10_feed_X10_refuses : GoodIn wsX10_feed wsX10_refuses := goodIn_r _ [7, 8, 9, 10, 11, 12, 13, 14, 15, 16, 17, 18, 19, 20, 21, 22, 23, 24, 25, 26, 27, 28, 29, 30, 31, 32, 33, 34, 35, 36, 37, 38, 39, 40, 41, 42, 43, 44, 45, 46, 47, 48] (by decide +kernel) (by decide +kernel)
set_option maxRecDepth 20000 in
theorem gX10_feed_X10_refuses : GoodIn wsX10_feed (wsV RX10 105 RX10 yX10_refuses wsX10_refuses) := goodIn_app (goodIn_of _ (by decide +kernel)) ggX10_feed_X10_refuses
theorem dX10_feed_0 : decode cX10_feed 0 = .ok (.aload_n 0, 1) := by decide +kernel
theorem dX10_feed_1 : decode cX10_feed 1 = .ok (.aload_n 0, 1) := by decide +kernel
theorem dX10_feed_2 : decode cX10_feed 2 = .ok (.getfield 168, 3) := by decide +kernel
theorem dX10_feed_5 : decode cX10_feed 5 = .ok (.iconst 4, 1) := by decide +kernel
theorem dX10_feed_6 : decode cX10_feed 6 = .ok (.iadd, 1) := by decide +kernel
theorem dX10_feed_7 : decode cX10_feed 7 = .ok (.sipush 8000, 3) := by decide +kernel
theorem dX10_feed_10 : decode cX10_feed 10 = .ok (.if_icmp .le 7, 3) := by decide +kernel
theorem dX10_feed_13 : decode cX10_feed 13 = .ok (.iconst 1, 1) := by decide +kernel
theorem dX10_feed_14 : decode cX10_feed 14 = .ok (.goto 4, 3) := by decide +kernel
theorem dX10_feed_17 : decode cX10_feed 17 = .ok (.iconst 0, 1) := by decide +kernel
theorem dX10_feed_18 : decode cX10_feed 18 = .ok (.invokevirtual 105, 3) := by decide +kernel
theorem dX10_feed_21 : decode cX10_feed 21 = .ok (.ifCond .eq 5, 3) := by decide +kernel
theorem dX10_feed_24 : decode cX10_feed 24 = .ok (.iconst 0, 1) := by decide +kernel
theorem dX10_feed_25 : decode cX10_feed 25 = .ok (.ireturn, 1) := by decide +kernel
theorem dX10_feed_26 : decode cX10_feed 26 = .ok (.bipush 24, 2) := by decide +kernel
theorem dX10_feed_28 : decode cX10_feed 28 = .ok (.istore_n 2, 1) := by decide +kernel
theorem dX10_feed_29 : decode cX10_feed 29 = .ok (.iload_n 2, 1) := by decide +kernel
theorem dX10_feed_30 : decode cX10_feed 30 = .ok (.ifCond .lt 35, 3) := by decide +kernel
theorem dX10_feed_33 : decode cX10_feed 33 = .ok (.aload_n 0, 1) := by decide +kernel
theorem dX10_feed_34 : decode cX10_feed 34 = .ok (.getfield 31, 3) := by decide +kernel
theorem dX10_feed_37 : decode cX10_feed 37 = .ok (.aload_n 0, 1) := by decide +kernel
theorem dX10_feed_38 : decode cX10_feed 38 = .ok (.getfield 168, 3) := by decide +kernel
theorem dX10_feed_41 : decode cX10_feed 41 = .ok (.iload_n 1, 1) := by decide +kernel
theorem dX10_feed_42 : decode cX10_feed 42 = .ok (.iload_n 2, 1) := by decide +kernel
theorem dX10_feed_43 : decode cX10_feed 43 = .ok (.ishr, 1) := by decide +kernel
theorem dX10_feed_44 : decode cX10_feed 44 = .ok (.sipush 255, 3) := by decide +kernel
theorem dX10_feed_47 : decode cX10_feed 47 = .ok (.iand, 1) := by decide +kernel
theorem dX10_feed_48 : decode cX10_feed 48 = .ok (.iastore, 1) := by decide +kernel
theorem dX10_feed_49 : decode cX10_feed 49 = .ok (.aload_n 0, 1) := by decide +kernel
theorem dX10_feed_50 : decode cX10_feed 50 = .ok (.dup, 1) := by decide +kernel
theorem dX10_feed_51 : decode cX10_feed 51 = .ok (.getfield 168, 3) := by decide +kernel
theorem dX10_feed_54 : decode cX10_feed 54 = .ok (.iconst 1, 1) := by decide +kernel
theorem dX10_feed_55 : decode cX10_feed 55 = .ok (.iadd, 1) := by decide +kernel
theorem dX10_feed_56 : decode cX10_feed 56 = .ok (.putfield 168, 3) := by decide +kernel
theorem dX10_feed_59 : decode cX10_feed 59 = .ok (.iinc 2 (-8), 3) := by decide +kernel
theorem dX10_feed_62 : decode cX10_feed 62 = .ok (.goto (-33), 3) := by decide +kernel
theorem dX10_feed_65 : decode cX10_feed 65 = .ok (.aload_n 0, 1) := by decide +kernel
theorem dX10_feed_66 : decode cX10_feed 66 = .ok (.getfield 168, 3) := by decide +kernel
theorem dX10_feed_69 : decode cX10_feed 69 = .ok (.ireturn, 1) := by decide +kernel
set_option maxRecDepth 20000 in
theorem ggX10_end_X10_refuses : GoodIn wsX10_end wsX10_refuses := goodIn_r _ [7, 8, 9, 10, 11, 12, 13, 14, 15, 16, 17, 18, 19, 20, 21, 22, 23, 24, 25, 26, 27, 28, 29, 30, 31, 32, 33, 34, 35, 36, 37, 38, 39, 40, 41, 42, 43, 44, 45, 46, 47, 48] (by decide +kernel) (by decide +kernel)
set_option maxRecDepth 20000 in
theorem gX10_end_X10_refuses : GoodIn wsX10_end (wsV RX10 105 RX10 yX10_refuses wsX10_refuses) := goodIn_app (goodIn_of _ (by decide +kernel)) ggX10_end_X10_refuses
theorem dX10_end_0 : decode cX10_end 0 = .ok (.aload_n 0, 1) := by decide +kernel
theorem dX10_end_1 : decode cX10_end 1 = .ok (.iload_n 1, 1) := by decide +kernel
theorem dX10_end_2 : decode cX10_end 2 = .ok (.ifCond .lt 11, 3) := by decide +kernel
theorem dX10_end_5 : decode cX10_end 5 = .ok (.iload_n 1, 1) := by decide +kernel
theorem dX10_end_6 : decode cX10_end 6 = .ok (.aload_n 0, 1) := by decide +kernel
theorem dX10_end_7 : decode cX10_end 7 = .ok (.getfield 168, 3) := by decide +kernel
theorem dX10_end_10 : decode cX10_end 10 = .ok (.if_icmp .le 7, 3) := by decide +kernel
theorem dX10_end_13 : decode cX10_end 13 = .ok (.iconst 1, 1) := by decide +kernel
theorem dX10_end_14 : decode cX10_end 14 = .ok (.goto 4, 3) := by decide +kernel
theorem dX10_end_17 : decode cX10_end 17 = .ok (.iconst 0, 1) := by decide +kernel
theorem dX10_end_18 : decode cX10_end 18 = .ok (.invokevirtual 105, 3) := by decide +kernel
theorem dX10_end_21 : decode cX10_end 21 = .ok (.ifCond .eq 4, 3) := by decide +kernel
theorem dX10_end_24 : decode cX10_end 24 = .ok (.return_, 1) := by decide +kernel
theorem dX10_end_25 : decode cX10_end 25 = .ok (.aload_n 0, 1) := by decide +kernel
theorem dX10_end_26 : decode cX10_end 26 = .ok (.iload_n 1, 1) := by decide +kernel
theorem dX10_end_27 : decode cX10_end 27 = .ok (.putfield 168, 3) := by decide +kernel
theorem dX10_end_30 : decode cX10_end 30 = .ok (.aload_n 0, 1) := by decide +kernel
theorem dX10_end_31 : decode cX10_end 31 = .ok (.aload_n 0, 1) := by decide +kernel
theorem dX10_end_32 : decode cX10_end 32 = .ok (.getfield 186, 3) := by decide +kernel
theorem dX10_end_35 : decode cX10_end 35 = .ok (.iload_n 1, 1) := by decide +kernel
theorem dX10_end_36 : decode cX10_end 36 = .ok (.if_icmp .le 7, 3) := by decide +kernel
theorem dX10_end_39 : decode cX10_end 39 = .ok (.iload_n 1, 1) := by decide +kernel
theorem dX10_end_40 : decode cX10_end 40 = .ok (.goto 7, 3) := by decide +kernel
theorem dX10_end_43 : decode cX10_end 43 = .ok (.aload_n 0, 1) := by decide +kernel
theorem dX10_end_44 : decode cX10_end 44 = .ok (.getfield 186, 3) := by decide +kernel
theorem dX10_end_47 : decode cX10_end 47 = .ok (.putfield 186, 3) := by decide +kernel
theorem dX10_end_50 : decode cX10_end 50 = .ok (.return_, 1) := by decide +kernel
set_option maxRecDepth 20000 in
theorem ggX10_seek_X10_refuses : GoodIn wsX10_seek wsX10_refuses := goodIn_r _ [7, 8, 9, 10, 11, 12, 13, 14, 15, 16, 17, 18, 19, 20, 21, 22, 23, 24, 25, 26, 27, 28, 29, 30, 31, 32, 33, 34, 35, 36, 37, 38, 39, 40, 41, 42, 43, 44, 45, 46, 47, 48] (by decide +kernel) (by decide +kernel)
set_option maxRecDepth 20000 in
theorem gX10_seek_X10_refuses : GoodIn wsX10_seek (wsV RX10 105 RX10 yX10_refuses wsX10_refuses) := goodIn_app (goodIn_of _ (by decide +kernel)) ggX10_seek_X10_refuses
theorem dX10_seek_0 : decode cX10_seek 0 = .ok (.aload_n 0, 1) := by decide +kernel
theorem dX10_seek_1 : decode cX10_seek 1 = .ok (.iload_n 1, 1) := by decide +kernel
theorem dX10_seek_2 : decode cX10_seek 2 = .ok (.ifCond .lt 11, 3) := by decide +kernel
theorem dX10_seek_5 : decode cX10_seek 5 = .ok (.iload_n 1, 1) := by decide +kernel
theorem dX10_seek_6 : decode cX10_seek 6 = .ok (.aload_n 0, 1) := by decide +kernel
theorem dX10_seek_7 : decode cX10_seek 7 = .ok (.getfield 168, 3) := by decide +kernel
theorem dX10_seek_10 : decode cX10_seek 10 = .ok (.if_icmp .le 7, 3) := by decide +kernel
theorem dX10_seek_13 : decode cX10_seek 13 = .ok (.iconst 1, 1) := by decide +kernel
theorem dX10_seek_14 : decode cX10_seek 14 = .ok (.goto 4, 3) := by decide +kernel
theorem dX10_seek_17 : decode cX10_seek 17 = .ok (.iconst 0, 1) := by decide +kernel
theorem dX10_seek_18 : decode cX10_seek 18 = .ok (.invokevirtual 105, 3) := by decide +kernel
theorem dX10_seek_21 : decode cX10_seek 21 = .ok (.ifCond .eq 5, 3) := by decide +kernel
theorem dX10_seek_24 : decode cX10_seek 24 = .ok (.iconst 0, 1) := by decide +kernel
theorem dX10_seek_25 : decode cX10_seek 25 = .ok (.ireturn, 1) := by decide +kernel
theorem dX10_seek_26 : decode cX10_seek 26 = .ok (.aload_n 0, 1) := by decide +kernel
theorem dX10_seek_27 : decode cX10_seek 27 = .ok (.getfield 186, 3) := by decide +kernel
theorem dX10_seek_30 : decode cX10_seek 30 = .ok (.istore_n 2, 1) := by decide +kernel
theorem dX10_seek_31 : decode cX10_seek 31 = .ok (.aload_n 0, 1) := by decide +kernel
theorem dX10_seek_32 : decode cX10_seek 32 = .ok (.iload_n 1, 1) := by decide +kernel
theorem dX10_seek_33 : decode cX10_seek 33 = .ok (.putfield 186, 3) := by decide +kernel
theorem dX10_seek_36 : decode cX10_seek 36 = .ok (.iload_n 2, 1) := by decide +kernel
theorem dX10_seek_37 : decode cX10_seek 37 = .ok (.ireturn, 1) := by decide +kernel
theorem dX10_tape_0 : decode cX10_tape 0 = .ok (.aload_n 0, 1) := by decide +kernel
theorem dX10_tape_1 : decode cX10_tape 1 = .ok (.iconst 0, 1) := by decide +kernel
theorem dX10_tape_2 : decode cX10_tape 2 = .ok (.putfield 99, 3) := by decide +kernel
theorem dX10_tape_5 : decode cX10_tape 5 = .ok (.iload_n 1, 1) := by decide +kernel
theorem dX10_tape_6 : decode cX10_tape 6 = .ok (.ifCond .lt 20, 3) := by decide +kernel
theorem dX10_tape_9 : decode cX10_tape 9 = .ok (.iload_n 1, 1) := by decide +kernel
theorem dX10_tape_10 : decode cX10_tape 10 = .ok (.aload_n 0, 1) := by decide +kernel
theorem dX10_tape_11 : decode cX10_tape 11 = .ok (.getfield 168, 3) := by decide +kernel
theorem dX10_tape_14 : decode cX10_tape 14 = .ok (.if_icmp .ge 12, 3) := by decide +kernel
theorem dX10_tape_17 : decode cX10_tape 17 = .ok (.aload_n 0, 1) := by decide +kernel
theorem dX10_tape_18 : decode cX10_tape 18 = .ok (.getfield 31, 3) := by decide +kernel
theorem dX10_tape_21 : decode cX10_tape 21 = .ok (.iload_n 1, 1) := by decide +kernel
theorem dX10_tape_22 : decode cX10_tape 22 = .ok (.iaload, 1) := by decide +kernel
theorem dX10_tape_23 : decode cX10_tape 23 = .ok (.goto 4, 3) := by decide +kernel
theorem dX10_tape_26 : decode cX10_tape 26 = .ok (.iconst (-1), 1) := by decide +kernel
theorem dX10_tape_27 : decode cX10_tape 27 = .ok (.ireturn, 1) := by decide +kernel
set_option maxRecDepth 20000 in
theorem ggX10_way_X10_isWay : GoodIn wsX10_way wsX10_isWay := goodIn_r _ [11, 12, 18, 19, 20, 21, 22, 23, 24, 25, 26, 27, 28, 29, 30, 31, 32, 33, 34, 35, 36, 37, 38, 39, 40, 41, 42, 43, 44, 45, 46, 47, 48, 49, 50, 51, 52, 53, 54, 55, 56, 57] (by decide +kernel) (by decide +kernel)
set_option maxRecDepth 20000 in
theorem gX10_way_X10_isWay : GoodIn wsX10_way (wsV RX10 113 RX10 yX10_isWay wsX10_isWay) := goodIn_app (goodIn_of _ (by decide +kernel)) ggX10_way_X10_isWay
set_option maxRecDepth 20000 in
theorem ggX10_way_X10_refuses : GoodIn wsX10_way wsX10_refuses := goodIn_r _ [16, 17, 18, 19, 20, 21, 22, 23, 24, 25, 26, 27, 28, 29, 30, 31, 32, 33, 34, 35, 36, 37, 38, 39, 40, 41, 42, 43, 44, 45, 46, 47, 48, 49, 50, 51, 52, 53, 54, 55, 56, 57] (by decide +kernel) (by decide +kernel)
set_option maxRecDepth 20000 in
theorem gX10_way_X10_refuses : GoodIn wsX10_way (wsV RX10 105 RX10 yX10_refuses wsX10_refuses) := goodIn_app (goodIn_of _ (by decide +kernel)) ggX10_way_X10_refuses
theorem dX10_way_0 : decode cX10_way 0 = .ok (.aload_n 0, 1) := by decide +kernel
theorem dX10_way_1 : decode cX10_way 1 = .ok (.aload_n 0, 1) := by decide +kernel
theorem dX10_way_2 : decode cX10_way 2 = .ok (.iload_n 1, 1) := by decide +kernel
theorem dX10_way_3 : decode cX10_way 3 = .ok (.invokevirtual 113, 3) := by decide +kernel
theorem dX10_way_6 : decode cX10_way 6 = .ok (.ifCond .eq 12, 3) := by decide +kernel
theorem dX10_way_9 : decode cX10_way 9 = .ok (.iload_n 2, 1) := by decide +kernel
theorem dX10_way_10 : decode cX10_way 10 = .ok (.ifCond .lt 8, 3) := by decide +kernel
theorem dX10_way_13 : decode cX10_way 13 = .ok (.iload_n 2, 1) := by decide +kernel
theorem dX10_way_14 : decode cX10_way 14 = .ok (.iconst 4, 1) := by decide +kernel
theorem dX10_way_15 : decode cX10_way 15 = .ok (.if_icmp .le 7, 3) := by decide +kernel
theorem dX10_way_18 : decode cX10_way 18 = .ok (.iconst 1, 1) := by decide +kernel
theorem dX10_way_19 : decode cX10_way 19 = .ok (.goto 4, 3) := by decide +kernel
theorem dX10_way_22 : decode cX10_way 22 = .ok (.iconst 0, 1) := by decide +kernel
theorem dX10_way_23 : decode cX10_way 23 = .ok (.invokevirtual 105, 3) := by decide +kernel
theorem dX10_way_26 : decode cX10_way 26 = .ok (.ifCond .eq 5, 3) := by decide +kernel
theorem dX10_way_29 : decode cX10_way 29 = .ok (.iconst 0, 1) := by decide +kernel
theorem dX10_way_30 : decode cX10_way 30 = .ok (.ireturn, 1) := by decide +kernel
theorem dX10_way_31 : decode cX10_way 31 = .ok (.iload_n 2, 1) := by decide +kernel
theorem dX10_way_32 : decode cX10_way 32 = .ok (.iconst 4, 1) := by decide +kernel
theorem dX10_way_33 : decode cX10_way 33 = .ok (.if_icmp .ne 10, 3) := by decide +kernel
theorem dX10_way_36 : decode cX10_way 36 = .ok (.aload_n 0, 1) := by decide +kernel
theorem dX10_way_37 : decode cX10_way 37 = .ok (.getfield 25, 3) := by decide +kernel
theorem dX10_way_40 : decode cX10_way 40 = .ok (.iload_n 1, 1) := by decide +kernel
theorem dX10_way_41 : decode cX10_way 41 = .ok (.iaload, 1) := by decide +kernel
theorem dX10_way_42 : decode cX10_way 42 = .ok (.ireturn, 1) := by decide +kernel
theorem dX10_way_43 : decode cX10_way 43 = .ok (.aload_n 0, 1) := by decide +kernel
theorem dX10_way_44 : decode cX10_way 44 = .ok (.getfield 7, 3) := by decide +kernel
theorem dX10_way_47 : decode cX10_way 47 = .ok (.iload_n 1, 1) := by decide +kernel
theorem dX10_way_48 : decode cX10_way 48 = .ok (.iaload, 1) := by decide +kernel
theorem dX10_way_49 : decode cX10_way 49 = .ok (.ifCond .eq 5, 3) := by decide +kernel
theorem dX10_way_52 : decode cX10_way 52 = .ok (.iconst (-1), 1) := by decide +kernel
theorem dX10_way_53 : decode cX10_way 53 = .ok (.ireturn, 1) := by decide +kernel
theorem dX10_way_54 : decode cX10_way 54 = .ok (.iload_n 2, 1) := by decide +kernel
theorem dX10_way_55 : decode cX10_way 55 = .ok (.ifCond .ne 12, 3) := by decide +kernel
theorem dX10_way_58 : decode cX10_way 58 = .ok (.aload_n 0, 1) := by decide +kernel
theorem dX10_way_59 : decode cX10_way 59 = .ok (.getfield 13, 3) := by decide +kernel
theorem dX10_way_62 : decode cX10_way 62 = .ok (.iload_n 1, 1) := by decide +kernel
theorem dX10_way_63 : decode cX10_way 63 = .ok (.iaload, 1) := by decide +kernel
theorem dX10_way_64 : decode cX10_way 64 = .ok (.goto 37, 3) := by decide +kernel
theorem dX10_way_67 : decode cX10_way 67 = .ok (.iload_n 2, 1) := by decide +kernel
theorem dX10_way_68 : decode cX10_way 68 = .ok (.iconst 1, 1) := by decide +kernel
theorem dX10_way_69 : decode cX10_way 69 = .ok (.if_icmp .ne 12, 3) := by decide +kernel
theorem dX10_way_72 : decode cX10_way 72 = .ok (.aload_n 0, 1) := by decide +kernel
theorem dX10_way_73 : decode cX10_way 73 = .ok (.getfield 16, 3) := by decide +kernel
theorem dX10_way_76 : decode cX10_way 76 = .ok (.iload_n 1, 1) := by decide +kernel
theorem dX10_way_77 : decode cX10_way 77 = .ok (.iaload, 1) := by decide +kernel
theorem dX10_way_78 : decode cX10_way 78 = .ok (.goto 23, 3) := by decide +kernel
theorem dX10_way_81 : decode cX10_way 81 = .ok (.iload_n 2, 1) := by decide +kernel
theorem dX10_way_82 : decode cX10_way 82 = .ok (.iconst 2, 1) := by decide +kernel
theorem dX10_way_83 : decode cX10_way 83 = .ok (.if_icmp .ne 12, 3) := by decide +kernel
theorem dX10_way_86 : decode cX10_way 86 = .ok (.aload_n 0, 1) := by decide +kernel
theorem dX10_way_87 : decode cX10_way 87 = .ok (.getfield 19, 3) := by decide +kernel
theorem dX10_way_90 : decode cX10_way 90 = .ok (.iload_n 1, 1) := by decide +kernel
theorem dX10_way_91 : decode cX10_way 91 = .ok (.iaload, 1) := by decide +kernel
theorem dX10_way_92 : decode cX10_way 92 = .ok (.goto 9, 3) := by decide +kernel
theorem dX10_way_95 : decode cX10_way 95 = .ok (.aload_n 0, 1) := by decide +kernel
theorem dX10_way_96 : decode cX10_way 96 = .ok (.getfield 22, 3) := by decide +kernel
theorem dX10_way_99 : decode cX10_way 99 = .ok (.iload_n 1, 1) := by decide +kernel
theorem dX10_way_100 : decode cX10_way 100 = .ok (.iaload, 1) := by decide +kernel
theorem dX10_way_101 : decode cX10_way 101 = .ok (.ireturn, 1) := by decide +kernel
set_option maxRecDepth 20000 in
theorem ggX10_about_X10_refuses : GoodIn wsX10_about wsX10_refuses := goodIn_r _ [9, 10, 11, 12, 13, 14, 15, 16, 17, 18, 19, 20, 21, 22, 23, 24, 25, 26, 27, 28, 29, 30, 31, 32, 33, 34, 35, 36, 37, 38, 39, 40, 41, 42, 43, 44, 45, 46, 47, 48, 49, 50] (by decide +kernel) (by decide +kernel)
set_option maxRecDepth 20000 in
theorem gX10_about_X10_refuses : GoodIn wsX10_about (wsV RX10 105 RX10 yX10_refuses wsX10_refuses) := goodIn_app (goodIn_of _ (by decide +kernel)) ggX10_about_X10_refuses
theorem dX10_about_0 : decode cX10_about 0 = .ok (.aload_n 0, 1) := by decide +kernel
theorem dX10_about_1 : decode cX10_about 1 = .ok (.iload_n 1, 1) := by decide +kernel
theorem dX10_about_2 : decode cX10_about 2 = .ok (.ifCond .lt 8, 3) := by decide +kernel
theorem dX10_about_5 : decode cX10_about 5 = .ok (.iload_n 1, 1) := by decide +kernel
theorem dX10_about_6 : decode cX10_about 6 = .ok (.iconst 3, 1) := by decide +kernel
theorem dX10_about_7 : decode cX10_about 7 = .ok (.if_icmp .le 7, 3) := by decide +kernel
theorem dX10_about_10 : decode cX10_about 10 = .ok (.iconst 1, 1) := by decide +kernel
theorem dX10_about_11 : decode cX10_about 11 = .ok (.goto 4, 3) := by decide +kernel
theorem dX10_about_14 : decode cX10_about 14 = .ok (.iconst 0, 1) := by decide +kernel
theorem dX10_about_15 : decode cX10_about 15 = .ok (.invokevirtual 105, 3) := by decide +kernel
theorem dX10_about_18 : decode cX10_about 18 = .ok (.ifCond .eq 5, 3) := by decide +kernel
theorem dX10_about_21 : decode cX10_about 21 = .ok (.iconst 0, 1) := by decide +kernel
theorem dX10_about_22 : decode cX10_about 22 = .ok (.ireturn, 1) := by decide +kernel
theorem dX10_about_23 : decode cX10_about 23 = .ok (.iload_n 1, 1) := by decide +kernel
theorem dX10_about_24 : decode cX10_about 24 = .ok (.ifCond .ne 10, 3) := by decide +kernel
theorem dX10_about_27 : decode cX10_about 27 = .ok (.aload_n 0, 1) := by decide +kernel
theorem dX10_about_28 : decode cX10_about 28 = .ok (.getfield 102, 3) := by decide +kernel
theorem dX10_about_31 : decode cX10_about 31 = .ok (.goto 31, 3) := by decide +kernel
theorem dX10_about_34 : decode cX10_about 34 = .ok (.iload_n 1, 1) := by decide +kernel
theorem dX10_about_35 : decode cX10_about 35 = .ok (.iconst 1, 1) := by decide +kernel
theorem dX10_about_36 : decode cX10_about 36 = .ok (.if_icmp .ne 10, 3) := by decide +kernel
theorem dX10_about_39 : decode cX10_about 39 = .ok (.aload_n 0, 1) := by decide +kernel
theorem dX10_about_40 : decode cX10_about 40 = .ok (.getfield 120, 3) := by decide +kernel
theorem dX10_about_43 : decode cX10_about 43 = .ok (.goto 19, 3) := by decide +kernel
theorem dX10_about_46 : decode cX10_about 46 = .ok (.iload_n 1, 1) := by decide +kernel
theorem dX10_about_47 : decode cX10_about 47 = .ok (.iconst 2, 1) := by decide +kernel
theorem dX10_about_48 : decode cX10_about 48 = .ok (.if_icmp .ne 10, 3) := by decide +kernel
theorem dX10_about_51 : decode cX10_about 51 = .ok (.aload_n 0, 1) := by decide +kernel
theorem dX10_about_52 : decode cX10_about 52 = .ok (.getfield 168, 3) := by decide +kernel
theorem dX10_about_55 : decode cX10_about 55 = .ok (.goto 7, 3) := by decide +kernel
theorem dX10_about_58 : decode cX10_about 58 = .ok (.aload_n 0, 1) := by decide +kernel
theorem dX10_about_59 : decode cX10_about 59 = .ok (.getfield 186, 3) := by decide +kernel
theorem dX10_about_62 : decode cX10_about 62 = .ok (.ireturn, 1) := by decide +kernel
theorem dJ9_max_7cf53_0 : decode cJ9_max_7cf53 0 = .ok (.iload_n 0, 1) := by decide +kernel
theorem dJ9_max_7cf53_1 : decode cJ9_max_7cf53 1 = .ok (.iload_n 1, 1) := by decide +kernel
theorem dJ9_max_7cf53_2 : decode cJ9_max_7cf53 2 = .ok (.if_icmp .lt 7, 3) := by decide +kernel
theorem dJ9_max_7cf53_5 : decode cJ9_max_7cf53 5 = .ok (.iload_n 0, 1) := by decide +kernel
theorem dJ9_max_7cf53_6 : decode cJ9_max_7cf53 6 = .ok (.goto 4, 3) := by decide +kernel
theorem dJ9_max_7cf53_9 : decode cJ9_max_7cf53 9 = .ok (.iload_n 1, 1) := by decide +kernel
theorem dJ9_max_7cf53_10 : decode cJ9_max_7cf53 10 = .ok (.ireturn, 1) := by decide +kernel
theorem dJ9_min_7cf53_0 : decode cJ9_min_7cf53 0 = .ok (.iload_n 0, 1) := by decide +kernel
theorem dJ9_min_7cf53_1 : decode cJ9_min_7cf53 1 = .ok (.iload_n 1, 1) := by decide +kernel
theorem dJ9_min_7cf53_2 : decode cJ9_min_7cf53 2 = .ok (.if_icmp .gt 7, 3) := by decide +kernel
theorem dJ9_min_7cf53_5 : decode cJ9_min_7cf53 5 = .ok (.iload_n 0, 1) := by decide +kernel
theorem dJ9_min_7cf53_6 : decode cJ9_min_7cf53 6 = .ok (.goto 4, 3) := by decide +kernel
theorem dJ9_min_7cf53_9 : decode cJ9_min_7cf53 9 = .ok (.iload_n 1, 1) := by decide +kernel
theorem dJ9_min_7cf53_10 : decode cJ9_min_7cf53 10 = .ok (.ireturn, 1) := by decide +kernel
set_option maxRecDepth 20000 in
theorem ggL_coding_X9_coding : GoodIn wsL_coding wsX9_coding := goodIn_ca (goodIn_ca (goodIn_r _ [7, 8, 9, 10, 11, 12, 6, 13, 14, 15, 16, 17, 18, 19, 20, 21, 22, 23, 24, 25, 26, 27, 28, 29, 30, 31, 32, 33, 34, 35, 36, 37, 38, 39, 40, 41, 42, 43, 44, 45, 46, 47, 48, 49, 50, 51, 52, 53, 54, 55, 56, 57, 58, 59, 60, 61, 62, 63, 64, 65, 66] (by decide +kernel) (by decide +kernel)) (goodIn_sub (fun _ h => List.mem_cons_of_mem _ (List.mem_append_left _ (List.mem_append_right _ h))) (by decide +kernel))) (goodIn_sub (fun _ h => List.mem_cons_of_mem _ (List.mem_append_right _ h)) (by decide +kernel))
set_option maxRecDepth 20000 in
theorem gL_coding_X9_coding : GoodIn wsL_coding (wsV RL 7 RX9 yX9_coding wsX9_coding) := goodIn_app (goodIn_of _ (by decide +kernel)) ggL_coding_X9_coding
theorem dL_coding_0 : decode cL_coding 0 = .ok (.aload 5, 2) := by decide +kernel
theorem dL_coding_2 : decode cL_coding 2 = .ok (.iconst 0, 1) := by decide +kernel
theorem dL_coding_3 : decode cL_coding 3 = .ok (.aload_n 0, 1) := by decide +kernel
theorem dL_coding_4 : decode cL_coding 4 = .ok (.iload_n 1, 1) := by decide +kernel
theorem dL_coding_5 : decode cL_coding 5 = .ok (.iload_n 2, 1) := by decide +kernel
theorem dL_coding_6 : decode cL_coding 6 = .ok (.iload_n 3, 1) := by decide +kernel
theorem dL_coding_7 : decode cL_coding 7 = .ok (.iload 4, 2) := by decide +kernel
theorem dL_coding_9 : decode cL_coding 9 = .ok (.invokevirtual 7, 3) := by decide +kernel
theorem dL_coding_12 : decode cL_coding 12 = .ok (.i2l, 1) := by decide +kernel
theorem dL_coding_13 : decode cL_coding 13 = .ok (.lastore, 1) := by decide +kernel
theorem dL_coding_14 : decode cL_coding 14 = .ok (.goto 11, 3) := by decide +kernel
theorem dL_coding_17 : decode cL_coding 17 = .ok (.astore 6, 2) := by decide +kernel
theorem dL_coding_19 : decode cL_coding 19 = .ok (.iconst 1, 1) := by decide +kernel
theorem dL_coding_20 : decode cL_coding 20 = .ok (.ireturn, 1) := by decide +kernel
theorem dL_coding_21 : decode cL_coding 21 = .ok (.astore 6, 2) := by decide +kernel
theorem dL_coding_23 : decode cL_coding 23 = .ok (.iconst 2, 1) := by decide +kernel
theorem dL_coding_24 : decode cL_coding 24 = .ok (.ireturn, 1) := by decide +kernel
theorem dL_coding_25 : decode cL_coding 25 = .ok (.iconst 0, 1) := by decide +kernel
theorem dL_coding_26 : decode cL_coding 26 = .ok (.ireturn, 1) := by decide +kernel
set_option maxRecDepth 20000 in
theorem ggL_run_X9_run : GoodIn wsL_run wsX9_run := goodIn_ca (goodIn_ca (goodIn_r _ [7, 8, 9, 10, 11, 12, 13, 14, 15, 16, 17, 6, 18, 19, 20, 21, 22, 23, 24, 25, 26, 27, 28, 29, 30, 31, 32, 33, 34, 35, 36, 37, 38, 39, 40, 41, 42, 43, 44, 45, 46, 47, 48, 49, 50, 51, 52, 53, 54, 55, 56, 57, 58, 59, 60, 61, 62, 63, 64, 65, 66, 67, 68, 69, 70, 71, 72, 73] (by decide +kernel) (by decide +kernel)) (goodIn_sub (fun _ h => List.mem_cons_of_mem _ (List.mem_append_left _ (List.mem_append_right _ h))) (by decide +kernel))) (goodIn_sub (fun _ h => List.mem_cons_of_mem _ (List.mem_append_right _ h)) (by decide +kernel))
set_option maxRecDepth 20000 in
theorem gL_run_X9_run : GoodIn wsL_run (wsV RL 17 RX9 yX9_run wsX9_run) := goodIn_app (goodIn_of _ (by decide +kernel)) ggL_run_X9_run
theorem dL_run_0 : decode cL_run 0 = .ok (.aload 4, 2) := by decide +kernel
theorem dL_run_2 : decode cL_run 2 = .ok (.iconst 0, 1) := by decide +kernel
theorem dL_run_3 : decode cL_run 3 = .ok (.aload_n 0, 1) := by decide +kernel
theorem dL_run_4 : decode cL_run 4 = .ok (.iload_n 1, 1) := by decide +kernel
theorem dL_run_5 : decode cL_run 5 = .ok (.iload_n 2, 1) := by decide +kernel
theorem dL_run_6 : decode cL_run 6 = .ok (.iload_n 3, 1) := by decide +kernel
theorem dL_run_7 : decode cL_run 7 = .ok (.invokevirtual 17, 3) := by decide +kernel
theorem dL_run_10 : decode cL_run 10 = .ok (.i2l, 1) := by decide +kernel
theorem dL_run_11 : decode cL_run 11 = .ok (.lastore, 1) := by decide +kernel
theorem dL_run_12 : decode cL_run 12 = .ok (.goto 11, 3) := by decide +kernel
theorem dL_run_15 : decode cL_run 15 = .ok (.astore 5, 2) := by decide +kernel
theorem dL_run_17 : decode cL_run 17 = .ok (.iconst 1, 1) := by decide +kernel
theorem dL_run_18 : decode cL_run 18 = .ok (.ireturn, 1) := by decide +kernel
theorem dL_run_19 : decode cL_run 19 = .ok (.astore 5, 2) := by decide +kernel
theorem dL_run_21 : decode cL_run 21 = .ok (.iconst 2, 1) := by decide +kernel
theorem dL_run_22 : decode cL_run 22 = .ok (.ireturn, 1) := by decide +kernel
theorem dL_run_23 : decode cL_run 23 = .ok (.iconst 0, 1) := by decide +kernel
theorem dL_run_24 : decode cL_run 24 = .ok (.ireturn, 1) := by decide +kernel
set_option maxRecDepth 20000 in
theorem ggL_popular_X9_popular : GoodIn wsL_popular wsX9_popular := goodIn_ca (goodIn_ca (goodIn_r _ [7, 8, 9, 10, 11, 12, 13, 14, 15, 16, 17, 6, 18, 19, 20, 21, 22, 23, 24, 25, 26, 27, 28, 29, 30, 31, 32, 33, 34, 35, 36, 37, 38, 39, 40, 41, 42, 43, 44, 45, 46, 47, 48, 49, 50, 51, 52, 53, 54, 55, 56, 57, 58, 59, 60, 61, 62, 63, 64, 65, 66, 67, 68, 69, 70, 71, 72, 73, 74] (by decide +kernel) (by decide +kernel)) (goodIn_sub (fun _ h => List.mem_cons_of_mem _ (List.mem_append_left _ (List.mem_append_right _ h))) (by decide +kernel))) (goodIn_sub (fun _ h => List.mem_cons_of_mem _ (List.mem_append_right _ h)) (by decide +kernel))
set_option maxRecDepth 20000 in
theorem gL_popular_X9_popular : GoodIn wsL_popular (wsV RL 21 RX9 yX9_popular wsX9_popular) := goodIn_app (goodIn_of _ (by decide +kernel)) ggL_popular_X9_popular
theorem dL_popular_0 : decode cL_popular 0 = .ok (.aload 5, 2) := by decide +kernel
theorem dL_popular_2 : decode cL_popular 2 = .ok (.iconst 0, 1) := by decide +kernel
theorem dL_popular_3 : decode cL_popular 3 = .ok (.aload_n 0, 1) := by decide +kernel
theorem dL_popular_4 : decode cL_popular 4 = .ok (.iload_n 1, 1) := by decide +kernel
theorem dL_popular_5 : decode cL_popular 5 = .ok (.iload_n 2, 1) := by decide +kernel
theorem dL_popular_6 : decode cL_popular 6 = .ok (.iload_n 3, 1) := by decide +kernel
theorem dL_popular_7 : decode cL_popular 7 = .ok (.iload 4, 2) := by decide +kernel
theorem dL_popular_9 : decode cL_popular 9 = .ok (.invokevirtual 21, 3) := by decide +kernel
theorem dL_popular_12 : decode cL_popular 12 = .ok (.i2l, 1) := by decide +kernel
theorem dL_popular_13 : decode cL_popular 13 = .ok (.lastore, 1) := by decide +kernel
theorem dL_popular_14 : decode cL_popular 14 = .ok (.goto 11, 3) := by decide +kernel
theorem dL_popular_17 : decode cL_popular 17 = .ok (.astore 6, 2) := by decide +kernel
theorem dL_popular_19 : decode cL_popular 19 = .ok (.iconst 1, 1) := by decide +kernel
theorem dL_popular_20 : decode cL_popular 20 = .ok (.ireturn, 1) := by decide +kernel
theorem dL_popular_21 : decode cL_popular 21 = .ok (.astore 6, 2) := by decide +kernel
theorem dL_popular_23 : decode cL_popular 23 = .ok (.iconst 2, 1) := by decide +kernel
theorem dL_popular_24 : decode cL_popular 24 = .ok (.ireturn, 1) := by decide +kernel
theorem dL_popular_25 : decode cL_popular 25 = .ok (.iconst 0, 1) := by decide +kernel
theorem dL_popular_26 : decode cL_popular 26 = .ok (.ireturn, 1) := by decide +kernel
set_option maxRecDepth 20000 in
theorem ggL_number_X9_number : GoodIn wsL_number wsX9_number := goodIn_ca (goodIn_r _ [6, 7, 8, 9, 10, 11, 12, 13, 14, 15, 16, 17, 18] (by decide +kernel) (by decide +kernel)) (goodIn_sub (fun _ h => List.mem_cons_of_mem _ (List.mem_append_right _ h)) (by decide +kernel))
set_option maxRecDepth 20000 in
theorem gL_number_X9_number : GoodIn wsL_number (wsV RL 24 RX9 yX9_number wsX9_number) := goodIn_app (goodIn_of _ (by decide +kernel)) ggL_number_X9_number
theorem dL_number_0 : decode cL_number 0 = .ok (.aload_n 2, 1) := by decide +kernel
