theorem dX0_init_0 : decode cX0_init 0 = .ok (.aload_n 0, 1) := by decide +kernel
theorem dX0_init_1 : decode cX0_init 1 = .ok (.invokespecial 3, 3) := by decide +kernel
theorem dX0_init_4 : decode cX0_init 4 = .ok (.aload_n 0, 1) := by decide +kernel
theorem dX0_init_5 : decode cX0_init 5 = .ok (.sipush 512, 3) := by decide +kernel
theorem dX0_init_8 : decode cX0_init 8 = .ok (.newarray .int, 2) := by decide +kernel
theorem dX0_init_10 : decode cX0_init 10 = .ok (.putfield 11, 3) := by decide +kernel
theorem dX0_init_13 : decode cX0_init 13 = .ok (.aload_n 0, 1) := by decide +kernel
theorem dX0_init_14 : decode cX0_init 14 = .ok (.iconst 1, 1) := by decide +kernel
theorem dX0_init_15 : decode cX0_init 15 = .ok (.putfield 15, 3) := by decide +kernel
theorem dX0_init_18 : decode cX0_init 18 = .ok (.aload_n 0, 1) := by decide +kernel
theorem dX0_init_19 : decode cX0_init 19 = .ok (.sipush 400, 3) := by decide +kernel
theorem dX0_init_22 : decode cX0_init 22 = .ok (.newarray .int, 2) := by decide +kernel
theorem dX0_init_24 : decode cX0_init 24 = .ok (.putfield 19, 3) := by decide +kernel
theorem dX0_init_27 : decode cX0_init 27 = .ok (.aload_n 0, 1) := by decide +kernel
theorem dX0_init_28 : decode cX0_init 28 = .ok (.sipush 400, 3) := by decide +kernel
theorem dX0_init_31 : decode cX0_init 31 = .ok (.newarray .int, 2) := by decide +kernel
theorem dX0_init_33 : decode cX0_init 33 = .ok (.putfield 22, 3) := by decide +kernel
theorem dX0_init_36 : decode cX0_init 36 = .ok (.aload_n 0, 1) := by decide +kernel
theorem dX0_init_37 : decode cX0_init 37 = .ok (.iconst 0, 1) := by decide +kernel
theorem dX0_init_38 : decode cX0_init 38 = .ok (.putfield 25, 3) := by decide +kernel
theorem dX0_init_41 : decode cX0_init 41 = .ok (.return_, 1) := by decide +kernel
set_option maxRecDepth 20000 in
theorem ggX0_take_X0_empty : GoodIn wsX0_take wsX0_empty := goodIn_r _ [10, 11, 12, 13, 28, 29, 30, 31, 32] (by decide +kernel) (by decide +kernel)
set_option maxRecDepth 20000 in
theorem gX0_take_X0_empty : GoodIn wsX0_take (wsV RX0 28 RX0 yX0_empty wsX0_empty) := goodIn_app (goodIn_of _ (by decide +kernel)) ggX0_take_X0_empty
set_option maxRecDepth 20000 in
theorem ggX0_take_X0_kindOf : GoodIn wsX0_take wsX0_kindOf := goodIn_r _ [17, 11, 18, 12, 19, 13, 1, 28, 29, 30, 31, 32] (by decide +kernel) (by decide +kernel)
set_option maxRecDepth 20000 in
theorem gX0_take_X0_kindOf : GoodIn wsX0_take (wsV RX0 32 RX0 yX0_kindOf wsX0_kindOf) := goodIn_app (goodIn_of _ (by decide +kernel)) ggX0_take_X0_kindOf
set_option maxRecDepth 20000 in
theorem ggX0_take_X0_chooseFavourites : GoodIn wsX0_take wsX0_chooseFavourites := goodIn_r _ [23, 19, 1, 24, 25, 26, 9, 27, 13, 28, 29, 30, 31, 32] (by decide +kernel) (by decide +kernel)
set_option maxRecDepth 20000 in
theorem gX0_take_X0_chooseFavourites : GoodIn wsX0_take (wsV RX0 44 RX0 yX0_chooseFavourites wsX0_chooseFavourites) := goodIn_app (goodIn_of _ (by decide +kernel)) ggX0_take_X0_chooseFavourites
theorem dX0_take_0 : decode cX0_take 0 = .ok (.aload_n 0, 1) := by decide +kernel
theorem dX0_take_1 : decode cX0_take 1 = .ok (.iload_n 3, 1) := by decide +kernel
theorem dX0_take_2 : decode cX0_take 2 = .ok (.invokevirtual 28, 3) := by decide +kernel
theorem dX0_take_5 : decode cX0_take 5 = .ok (.iconst 0, 1) := by decide +kernel
theorem dX0_take_6 : decode cX0_take 6 = .ok (.istore 6, 2) := by decide +kernel
theorem dX0_take_8 : decode cX0_take 8 = .ok (.iload 6, 2) := by decide +kernel
theorem dX0_take_10 : decode cX0_take 10 = .ok (.iload_n 3, 1) := by decide +kernel
theorem dX0_take_11 : decode cX0_take 11 = .ok (.if_icmp .ge 42, 3) := by decide +kernel
theorem dX0_take_14 : decode cX0_take 14 = .ok (.aload_n 0, 1) := by decide +kernel
theorem dX0_take_15 : decode cX0_take 15 = .ok (.aload_n 1, 1) := by decide +kernel
theorem dX0_take_16 : decode cX0_take 16 = .ok (.iload_n 2, 1) := by decide +kernel
theorem dX0_take_17 : decode cX0_take 17 = .ok (.iload 6, 2) := by decide +kernel
theorem dX0_take_19 : decode cX0_take 19 = .ok (.iadd, 1) := by decide +kernel
theorem dX0_take_20 : decode cX0_take 20 = .ok (.iaload, 1) := by decide +kernel
theorem dX0_take_21 : decode cX0_take 21 = .ok (.invokevirtual 32, 3) := by decide +kernel
theorem dX0_take_24 : decode cX0_take 24 = .ok (.istore 7, 2) := by decide +kernel
theorem dX0_take_26 : decode cX0_take 26 = .ok (.aload_n 0, 1) := by decide +kernel
theorem dX0_take_27 : decode cX0_take 27 = .ok (.getfield 22, 3) := by decide +kernel
theorem dX0_take_30 : decode cX0_take 30 = .ok (.iload 7, 2) := by decide +kernel
theorem dX0_take_32 : decode cX0_take 32 = .ok (.dup2, 1) := by decide +kernel
theorem dX0_take_33 : decode cX0_take 33 = .ok (.iaload, 1) := by decide +kernel
theorem dX0_take_34 : decode cX0_take 34 = .ok (.iconst 1, 1) := by decide +kernel
theorem dX0_take_35 : decode cX0_take 35 = .ok (.iadd, 1) := by decide +kernel
theorem dX0_take_36 : decode cX0_take 36 = .ok (.iastore, 1) := by decide +kernel
theorem dX0_take_37 : decode cX0_take 37 = .ok (.aload 5, 2) := by decide +kernel
theorem dX0_take_39 : decode cX0_take 39 = .ok (.getfield 36, 3) := by decide +kernel
theorem dX0_take_42 : decode cX0_take 42 = .ok (.iload 6, 2) := by decide +kernel
theorem dX0_take_44 : decode cX0_take 44 = .ok (.iload 7, 2) := by decide +kernel
theorem dX0_take_46 : decode cX0_take 46 = .ok (.iastore, 1) := by decide +kernel
theorem dX0_take_47 : decode cX0_take 47 = .ok (.iinc 6 1, 3) := by decide +kernel
theorem dX0_take_50 : decode cX0_take 50 = .ok (.goto (-42), 3) := by decide +kernel
theorem dX0_take_53 : decode cX0_take 53 = .ok (.aload_n 0, 1) := by decide +kernel
theorem dX0_take_54 : decode cX0_take 54 = .ok (.iload 4, 2) := by decide +kernel
theorem dX0_take_56 : decode cX0_take 56 = .ok (.aload 5, 2) := by decide +kernel
theorem dX0_take_58 : decode cX0_take 58 = .ok (.getfield 41, 3) := by decide +kernel
theorem dX0_take_61 : decode cX0_take 61 = .ok (.invokevirtual 44, 3) := by decide +kernel
theorem dX0_take_64 : decode cX0_take 64 = .ok (.iconst 0, 1) := by decide +kernel
theorem dX0_take_65 : decode cX0_take 65 = .ok (.istore 6, 2) := by decide +kernel
theorem dX0_take_67 : decode cX0_take 67 = .ok (.iload 6, 2) := by decide +kernel
theorem dX0_take_69 : decode cX0_take 69 = .ok (.iload_n 3, 1) := by decide +kernel
theorem dX0_take_70 : decode cX0_take 70 = .ok (.if_icmp .ge 35, 3) := by decide +kernel
theorem dX0_take_73 : decode cX0_take 73 = .ok (.aload 5, 2) := by decide +kernel
theorem dX0_take_75 : decode cX0_take 75 = .ok (.getfield 36, 3) := by decide +kernel
theorem dX0_take_78 : decode cX0_take 78 = .ok (.iload 6, 2) := by decide +kernel
theorem dX0_take_80 : decode cX0_take 80 = .ok (.iconst 0, 1) := by decide +kernel
theorem dX0_take_81 : decode cX0_take 81 = .ok (.aload_n 0, 1) := by decide +kernel
theorem dX0_take_82 : decode cX0_take 82 = .ok (.getfield 22, 3) := by decide +kernel
theorem dX0_take_85 : decode cX0_take 85 = .ok (.aload 5, 2) := by decide +kernel
theorem dX0_take_87 : decode cX0_take 87 = .ok (.getfield 36, 3) := by decide +kernel
theorem dX0_take_90 : decode cX0_take 90 = .ok (.iload 6, 2) := by decide +kernel
theorem dX0_take_92 : decode cX0_take 92 = .ok (.iaload, 1) := by decide +kernel
theorem dX0_take_93 : decode cX0_take 93 = .ok (.iaload, 1) := by decide +kernel
theorem dX0_take_94 : decode cX0_take 94 = .ok (.ineg, 1) := by decide +kernel
theorem dX0_take_95 : decode cX0_take 95 = .ok (.invokestatic 48, 3) := by decide +kernel
theorem dX0_take_98 : decode cX0_take 98 = .ok (.iastore, 1) := by decide +kernel
theorem dX0_take_99 : decode cX0_take 99 = .ok (.iinc 6 1, 3) := by decide +kernel
theorem dX0_take_102 : decode cX0_take 102 = .ok (.goto (-35), 3) := by decide +kernel
theorem dX0_take_105 : decode cX0_take 105 = .ok (.return_, 1) := by decide +kernel
theorem dX0_empty_0 : decode cX0_empty 0 = .ok (.aload_n 0, 1) := by decide +kernel
theorem dX0_empty_1 : decode cX0_empty 1 = .ok (.iconst 1, 1) := by decide +kernel
theorem dX0_empty_2 : decode cX0_empty 2 = .ok (.putfield 15, 3) := by decide +kernel
theorem dX0_empty_5 : decode cX0_empty 5 = .ok (.aload_n 0, 1) := by decide +kernel
theorem dX0_empty_6 : decode cX0_empty 6 = .ok (.getfield 15, 3) := by decide +kernel
theorem dX0_empty_9 : decode cX0_empty 9 = .ok (.bipush 9, 2) := by decide +kernel
theorem dX0_empty_11 : decode cX0_empty 11 = .ok (.if_icmp .ge 28, 3) := by decide +kernel
theorem dX0_empty_14 : decode cX0_empty 14 = .ok (.iconst 1, 1) := by decide +kernel
theorem dX0_empty_15 : decode cX0_empty 15 = .ok (.aload_n 0, 1) := by decide +kernel
theorem dX0_empty_16 : decode cX0_empty 16 = .ok (.getfield 15, 3) := by decide +kernel
theorem dX0_empty_19 : decode cX0_empty 19 = .ok (.ishl, 1) := by decide +kernel
theorem dX0_empty_20 : decode cX0_empty 20 = .ok (.iconst 2, 1) := by decide +kernel
theorem dX0_empty_21 : decode cX0_empty 21 = .ok (.iload_n 1, 1) := by decide +kernel
theorem dX0_empty_22 : decode cX0_empty 22 = .ok (.imul, 1) := by decide +kernel
theorem dX0_empty_23 : decode cX0_empty 23 = .ok (.if_icmp .ge 16, 3) := by decide +kernel
theorem dX0_empty_26 : decode cX0_empty 26 = .ok (.aload_n 0, 1) := by decide +kernel
theorem dX0_empty_27 : decode cX0_empty 27 = .ok (.dup, 1) := by decide +kernel
theorem dX0_empty_28 : decode cX0_empty 28 = .ok (.getfield 15, 3) := by decide +kernel
theorem dX0_empty_31 : decode cX0_empty 31 = .ok (.iconst 1, 1) := by decide +kernel
theorem dX0_empty_32 : decode cX0_empty 32 = .ok (.iadd, 1) := by decide +kernel
theorem dX0_empty_33 : decode cX0_empty 33 = .ok (.putfield 15, 3) := by decide +kernel
theorem dX0_empty_36 : decode cX0_empty 36 = .ok (.goto (-31), 3) := by decide +kernel
theorem dX0_empty_39 : decode cX0_empty 39 = .ok (.iconst 0, 1) := by decide +kernel
theorem dX0_empty_40 : decode cX0_empty 40 = .ok (.istore_n 2, 1) := by decide +kernel
theorem dX0_empty_41 : decode cX0_empty 41 = .ok (.iload_n 2, 1) := by decide +kernel
theorem dX0_empty_42 : decode cX0_empty 42 = .ok (.iconst 1, 1) := by decide +kernel
theorem dX0_empty_43 : decode cX0_empty 43 = .ok (.aload_n 0, 1) := by decide +kernel
theorem dX0_empty_44 : decode cX0_empty 44 = .ok (.getfield 15, 3) := by decide +kernel
theorem dX0_empty_47 : decode cX0_empty 47 = .ok (.ishl, 1) := by decide +kernel
theorem dX0_empty_48 : decode cX0_empty 48 = .ok (.if_icmp .ge 16, 3) := by decide +kernel
theorem dX0_empty_51 : decode cX0_empty 51 = .ok (.aload_n 0, 1) := by decide +kernel
theorem dX0_empty_52 : decode cX0_empty 52 = .ok (.getfield 11, 3) := by decide +kernel
theorem dX0_empty_55 : decode cX0_empty 55 = .ok (.iload_n 2, 1) := by decide +kernel
theorem dX0_empty_56 : decode cX0_empty 56 = .ok (.iconst 0, 1) := by decide +kernel
theorem dX0_empty_57 : decode cX0_empty 57 = .ok (.iastore, 1) := by decide +kernel
theorem dX0_empty_58 : decode cX0_empty 58 = .ok (.iinc 2 1, 3) := by decide +kernel
theorem dX0_empty_61 : decode cX0_empty 61 = .ok (.goto (-20), 3) := by decide +kernel
theorem dX0_empty_64 : decode cX0_empty 64 = .ok (.aload_n 0, 1) := by decide +kernel
theorem dX0_empty_65 : decode cX0_empty 65 = .ok (.iconst 0, 1) := by decide +kernel
theorem dX0_empty_66 : decode cX0_empty 66 = .ok (.putfield 25, 3) := by decide +kernel
theorem dX0_empty_69 : decode cX0_empty 69 = .ok (.return_, 1) := by decide +kernel
theorem dX0_kindOf_0 : decode cX0_kindOf 0 = .ok (.iconst 1, 1) := by decide +kernel
theorem dX0_kindOf_1 : decode cX0_kindOf 1 = .ok (.aload_n 0, 1) := by decide +kernel
theorem dX0_kindOf_2 : decode cX0_kindOf 2 = .ok (.getfield 15, 3) := by decide +kernel
theorem dX0_kindOf_5 : decode cX0_kindOf 5 = .ok (.ishl, 1) := by decide +kernel
theorem dX0_kindOf_6 : decode cX0_kindOf 6 = .ok (.istore_n 2, 1) := by decide +kernel
theorem dX0_kindOf_7 : decode cX0_kindOf 7 = .ok (.iload_n 1, 1) := by decide +kernel
theorem dX0_kindOf_8 : decode cX0_kindOf 8 = .ok (.ldc 54, 2) := by decide +kernel
theorem dX0_kindOf_10 : decode cX0_kindOf 10 = .ok (.imul, 1) := by decide +kernel
theorem dX0_kindOf_11 : decode cX0_kindOf 11 = .ok (.bipush 32, 2) := by decide +kernel
theorem dX0_kindOf_13 : decode cX0_kindOf 13 = .ok (.aload_n 0, 1) := by decide +kernel
theorem dX0_kindOf_14 : decode cX0_kindOf 14 = .ok (.getfield 15, 3) := by decide +kernel
theorem dX0_kindOf_17 : decode cX0_kindOf 17 = .ok (.isub, 1) := by decide +kernel
theorem dX0_kindOf_18 : decode cX0_kindOf 18 = .ok (.iushr, 1) := by decide +kernel
theorem dX0_kindOf_19 : decode cX0_kindOf 19 = .ok (.istore_n 3, 1) := by decide +kernel
theorem dX0_kindOf_20 : decode cX0_kindOf 20 = .ok (.iconst 0, 1) := by decide +kernel
theorem dX0_kindOf_21 : decode cX0_kindOf 21 = .ok (.istore 4, 2) := by decide +kernel
theorem dX0_kindOf_23 : decode cX0_kindOf 23 = .ok (.iload 4, 2) := by decide +kernel
theorem dX0_kindOf_25 : decode cX0_kindOf 25 = .ok (.iload_n 2, 1) := by decide +kernel
theorem dX0_kindOf_26 : decode cX0_kindOf 26 = .ok (.if_icmp .ge 41, 3) := by decide +kernel
theorem dX0_kindOf_29 : decode cX0_kindOf 29 = .ok (.aload_n 0, 1) := by decide +kernel
theorem dX0_kindOf_30 : decode cX0_kindOf 30 = .ok (.getfield 11, 3) := by decide +kernel
theorem dX0_kindOf_33 : decode cX0_kindOf 33 = .ok (.iload_n 3, 1) := by decide +kernel
theorem dX0_kindOf_34 : decode cX0_kindOf 34 = .ok (.iaload, 1) := by decide +kernel
theorem dX0_kindOf_35 : decode cX0_kindOf 35 = .ok (.ifCond .eq 32, 3) := by decide +kernel
theorem dX0_kindOf_38 : decode cX0_kindOf 38 = .ok (.aload_n 0, 1) := by decide +kernel
theorem dX0_kindOf_39 : decode cX0_kindOf 39 = .ok (.getfield 19, 3) := by decide +kernel
theorem dX0_kindOf_42 : decode cX0_kindOf 42 = .ok (.aload_n 0, 1) := by decide +kernel
theorem dX0_kindOf_43 : decode cX0_kindOf 43 = .ok (.getfield 11, 3) := by decide +kernel
theorem dX0_kindOf_46 : decode cX0_kindOf 46 = .ok (.iload_n 3, 1) := by decide +kernel
theorem dX0_kindOf_47 : decode cX0_kindOf 47 = .ok (.iaload, 1) := by decide +kernel
theorem dX0_kindOf_48 : decode cX0_kindOf 48 = .ok (.iconst 1, 1) := by decide +kernel
theorem dX0_kindOf_49 : decode cX0_kindOf 49 = .ok (.isub, 1) := by decide +kernel
theorem dX0_kindOf_50 : decode cX0_kindOf 50 = .ok (.iaload, 1) := by decide +kernel
theorem dX0_kindOf_51 : decode cX0_kindOf 51 = .ok (.iload_n 1, 1) := by decide +kernel
theorem dX0_kindOf_52 : decode cX0_kindOf 52 = .ok (.if_icmp .eq 15, 3) := by decide +kernel
theorem dX0_kindOf_55 : decode cX0_kindOf 55 = .ok (.iload_n 3, 1) := by decide +kernel
theorem dX0_kindOf_56 : decode cX0_kindOf 56 = .ok (.iconst 1, 1) := by decide +kernel
theorem dX0_kindOf_57 : decode cX0_kindOf 57 = .ok (.iadd, 1) := by decide +kernel
theorem dX0_kindOf_58 : decode cX0_kindOf 58 = .ok (.iload_n 2, 1) := by decide +kernel
theorem dX0_kindOf_59 : decode cX0_kindOf 59 = .ok (.irem, 1) := by decide +kernel
theorem dX0_kindOf_60 : decode cX0_kindOf 60 = .ok (.istore_n 3, 1) := by decide +kernel
theorem dX0_kindOf_61 : decode cX0_kindOf 61 = .ok (.iinc 4 1, 3) := by decide +kernel
theorem dX0_kindOf_64 : decode cX0_kindOf 64 = .ok (.goto (-41), 3) := by decide +kernel
theorem dX0_kindOf_67 : decode cX0_kindOf 67 = .ok (.aload_n 0, 1) := by decide +kernel
theorem dX0_kindOf_68 : decode cX0_kindOf 68 = .ok (.getfield 11, 3) := by decide +kernel
theorem dX0_kindOf_71 : decode cX0_kindOf 71 = .ok (.iload_n 3, 1) := by decide +kernel
theorem dX0_kindOf_72 : decode cX0_kindOf 72 = .ok (.iaload, 1) := by decide +kernel
theorem dX0_kindOf_73 : decode cX0_kindOf 73 = .ok (.ifCond .ne 43, 3) := by decide +kernel
theorem dX0_kindOf_76 : decode cX0_kindOf 76 = .ok (.aload_n 0, 1) := by decide +kernel
theorem dX0_kindOf_77 : decode cX0_kindOf 77 = .ok (.getfield 19, 3) := by decide +kernel
theorem dX0_kindOf_80 : decode cX0_kindOf 80 = .ok (.aload_n 0, 1) := by decide +kernel
theorem dX0_kindOf_81 : decode cX0_kindOf 81 = .ok (.getfield 25, 3) := by decide +kernel
theorem dX0_kindOf_84 : decode cX0_kindOf 84 = .ok (.iload_n 1, 1) := by decide +kernel
theorem dX0_kindOf_85 : decode cX0_kindOf 85 = .ok (.iastore, 1) := by decide +kernel
theorem dX0_kindOf_86 : decode cX0_kindOf 86 = .ok (.aload_n 0, 1) := by decide +kernel
theorem dX0_kindOf_87 : decode cX0_kindOf 87 = .ok (.getfield 22, 3) := by decide +kernel
theorem dX0_kindOf_90 : decode cX0_kindOf 90 = .ok (.aload_n 0, 1) := by decide +kernel
theorem dX0_kindOf_91 : decode cX0_kindOf 91 = .ok (.getfield 25, 3) := by decide +kernel
theorem dX0_kindOf_94 : decode cX0_kindOf 94 = .ok (.iconst 0, 1) := by decide +kernel
theorem dX0_kindOf_95 : decode cX0_kindOf 95 = .ok (.iastore, 1) := by decide +kernel
theorem dX0_kindOf_96 : decode cX0_kindOf 96 = .ok (.aload_n 0, 1) := by decide +kernel
theorem dX0_kindOf_97 : decode cX0_kindOf 97 = .ok (.dup, 1) := by decide +kernel
theorem dX0_kindOf_98 : decode cX0_kindOf 98 = .ok (.getfield 25, 3) := by decide +kernel
theorem dX0_kindOf_101 : decode cX0_kindOf 101 = .ok (.iconst 1, 1) := by decide +kernel
theorem dX0_kindOf_102 : decode cX0_kindOf 102 = .ok (.iadd, 1) := by decide +kernel
theorem dX0_kindOf_103 : decode cX0_kindOf 103 = .ok (.putfield 25, 3) := by decide +kernel
theorem dX0_kindOf_106 : decode cX0_kindOf 106 = .ok (.aload_n 0, 1) := by decide +kernel
theorem dX0_kindOf_107 : decode cX0_kindOf 107 = .ok (.getfield 11, 3) := by decide +kernel
theorem dX0_kindOf_110 : decode cX0_kindOf 110 = .ok (.iload_n 3, 1) := by decide +kernel
theorem dX0_kindOf_111 : decode cX0_kindOf 111 = .ok (.aload_n 0, 1) := by decide +kernel
theorem dX0_kindOf_112 : decode cX0_kindOf 112 = .ok (.getfield 25, 3) := by decide +kernel
theorem dX0_kindOf_115 : decode cX0_kindOf 115 = .ok (.iastore, 1) := by decide +kernel
theorem dX0_kindOf_116 : decode cX0_kindOf 116 = .ok (.aload_n 0, 1) := by decide +kernel
theorem dX0_kindOf_117 : decode cX0_kindOf 117 = .ok (.getfield 11, 3) := by decide +kernel
theorem dX0_kindOf_120 : decode cX0_kindOf 120 = .ok (.iload_n 3, 1) := by decide +kernel
theorem dX0_kindOf_121 : decode cX0_kindOf 121 = .ok (.iaload, 1) := by decide +kernel
theorem dX0_kindOf_122 : decode cX0_kindOf 122 = .ok (.iconst 1, 1) := by decide +kernel
theorem dX0_kindOf_123 : decode cX0_kindOf 123 = .ok (.isub, 1) := by decide +kernel
theorem dX0_kindOf_124 : decode cX0_kindOf 124 = .ok (.ireturn, 1) := by decide +kernel
set_option maxRecDepth 20000 in
theorem ggX0_chooseFavourites_X0_mostFrequent : GoodIn wsX0_chooseFavourites wsX0_mostFrequent := goodIn_r _ [7, 8, 2, 9, 10, 11, 12, 13] (by decide +kernel) (by decide +kernel)
set_option maxRecDepth 20000 in
theorem gX0_chooseFavourites_X0_mostFrequent : GoodIn wsX0_chooseFavourites (wsV RX0 55 RX0 yX0_mostFrequent wsX0_mostFrequent) := goodIn_app (goodIn_of _ (by decide +kernel)) ggX0_chooseFavourites_X0_mostFrequent
theorem dX0_chooseFavourites_0 : decode cX0_chooseFavourites 0 = .ok (.iconst 0, 1) := by decide +kernel
theorem dX0_chooseFavourites_1 : decode cX0_chooseFavourites 1 = .ok (.istore_n 3, 1) := by decide +kernel
theorem dX0_chooseFavourites_2 : decode cX0_chooseFavourites 2 = .ok (.aload_n 0, 1) := by decide +kernel
theorem dX0_chooseFavourites_3 : decode cX0_chooseFavourites 3 = .ok (.invokevirtual 55, 3) := by decide +kernel
theorem dX0_chooseFavourites_6 : decode cX0_chooseFavourites 6 = .ok (.istore 4, 2) := by decide +kernel
theorem dX0_chooseFavourites_8 : decode cX0_chooseFavourites 8 = .ok (.iload_n 3, 1) := by decide +kernel
theorem dX0_chooseFavourites_9 : decode cX0_chooseFavourites 9 = .ok (.iload_n 1, 1) := by decide +kernel
theorem dX0_chooseFavourites_10 : decode cX0_chooseFavourites 10 = .ok (.if_icmp .ge 40, 3) := by decide +kernel
theorem dX0_chooseFavourites_13 : decode cX0_chooseFavourites 13 = .ok (.iload 4, 2) := by decide +kernel
theorem dX0_chooseFavourites_15 : decode cX0_chooseFavourites 15 = .ok (.iconst (-1), 1) := by decide +kernel
theorem dX0_chooseFavourites_16 : decode cX0_chooseFavourites 16 = .ok (.if_icmp .eq 34, 3) := by decide +kernel
theorem dX0_chooseFavourites_19 : decode cX0_chooseFavourites 19 = .ok (.iinc 3 1, 3) := by decide +kernel
theorem dX0_chooseFavourites_22 : decode cX0_chooseFavourites 22 = .ok (.aload_n 2, 1) := by decide +kernel
theorem dX0_chooseFavourites_23 : decode cX0_chooseFavourites 23 = .ok (.iload_n 3, 1) := by decide +kernel
theorem dX0_chooseFavourites_24 : decode cX0_chooseFavourites 24 = .ok (.aload_n 0, 1) := by decide +kernel
theorem dX0_chooseFavourites_25 : decode cX0_chooseFavourites 25 = .ok (.getfield 19, 3) := by decide +kernel
theorem dX0_chooseFavourites_28 : decode cX0_chooseFavourites 28 = .ok (.iload 4, 2) := by decide +kernel
theorem dX0_chooseFavourites_30 : decode cX0_chooseFavourites 30 = .ok (.iaload, 1) := by decide +kernel
theorem dX0_chooseFavourites_31 : decode cX0_chooseFavourites 31 = .ok (.iastore, 1) := by decide +kernel
theorem dX0_chooseFavourites_32 : decode cX0_chooseFavourites 32 = .ok (.aload_n 0, 1) := by decide +kernel
theorem dX0_chooseFavourites_33 : decode cX0_chooseFavourites 33 = .ok (.getfield 22, 3) := by decide +kernel
theorem dX0_chooseFavourites_36 : decode cX0_chooseFavourites 36 = .ok (.iload 4, 2) := by decide +kernel
theorem dX0_chooseFavourites_38 : decode cX0_chooseFavourites 38 = .ok (.iload_n 3, 1) := by decide +kernel
theorem dX0_chooseFavourites_39 : decode cX0_chooseFavourites 39 = .ok (.ineg, 1) := by decide +kernel
theorem dX0_chooseFavourites_40 : decode cX0_chooseFavourites 40 = .ok (.iastore, 1) := by decide +kernel
theorem dX0_chooseFavourites_41 : decode cX0_chooseFavourites 41 = .ok (.aload_n 0, 1) := by decide +kernel
theorem dX0_chooseFavourites_42 : decode cX0_chooseFavourites 42 = .ok (.invokevirtual 55, 3) := by decide +kernel
theorem dX0_chooseFavourites_45 : decode cX0_chooseFavourites 45 = .ok (.istore 4, 2) := by decide +kernel
theorem dX0_chooseFavourites_47 : decode cX0_chooseFavourites 47 = .ok (.goto (-39), 3) := by decide +kernel
theorem dX0_chooseFavourites_50 : decode cX0_chooseFavourites 50 = .ok (.aload_n 2, 1) := by decide +kernel
theorem dX0_chooseFavourites_51 : decode cX0_chooseFavourites 51 = .ok (.iconst 0, 1) := by decide +kernel
theorem dX0_chooseFavourites_52 : decode cX0_chooseFavourites 52 = .ok (.iload_n 3, 1) := by decide +kernel
theorem dX0_chooseFavourites_53 : decode cX0_chooseFavourites 53 = .ok (.iastore, 1) := by decide +kernel
theorem dX0_chooseFavourites_54 : decode cX0_chooseFavourites 54 = .ok (.return_, 1) := by decide +kernel
theorem dX0_mostFrequent_0 : decode cX0_mostFrequent 0 = .ok (.iconst (-1), 1) := by decide +kernel
theorem dX0_mostFrequent_1 : decode cX0_mostFrequent 1 = .ok (.istore_n 1, 1) := by decide +kernel
theorem dX0_mostFrequent_2 : decode cX0_mostFrequent 2 = .ok (.iconst 1, 1) := by decide +kernel
theorem dX0_mostFrequent_3 : decode cX0_mostFrequent 3 = .ok (.istore_n 2, 1) := by decide +kernel
theorem dX0_mostFrequent_4 : decode cX0_mostFrequent 4 = .ok (.iconst 0, 1) := by decide +kernel
theorem dX0_mostFrequent_5 : decode cX0_mostFrequent 5 = .ok (.istore_n 3, 1) := by decide +kernel
theorem dX0_mostFrequent_6 : decode cX0_mostFrequent 6 = .ok (.iload_n 3, 1) := by decide +kernel
theorem dX0_mostFrequent_7 : decode cX0_mostFrequent 7 = .ok (.aload_n 0, 1) := by decide +kernel
theorem dX0_mostFrequent_8 : decode cX0_mostFrequent 8 = .ok (.getfield 25, 3) := by decide +kernel
theorem dX0_mostFrequent_11 : decode cX0_mostFrequent 11 = .ok (.if_icmp .ge 28, 3) := by decide +kernel
theorem dX0_mostFrequent_14 : decode cX0_mostFrequent 14 = .ok (.aload_n 0, 1) := by decide +kernel
theorem dX0_mostFrequent_15 : decode cX0_mostFrequent 15 = .ok (.getfield 22, 3) := by decide +kernel
theorem dX0_mostFrequent_18 : decode cX0_mostFrequent 18 = .ok (.iload_n 3, 1) := by decide +kernel
theorem dX0_mostFrequent_19 : decode cX0_mostFrequent 19 = .ok (.iaload, 1) := by decide +kernel
theorem dX0_mostFrequent_20 : decode cX0_mostFrequent 20 = .ok (.iload_n 2, 1) := by decide +kernel
theorem dX0_mostFrequent_21 : decode cX0_mostFrequent 21 = .ok (.if_icmp .le 12, 3) := by decide +kernel
theorem dX0_mostFrequent_24 : decode cX0_mostFrequent 24 = .ok (.iload_n 3, 1) := by decide +kernel
theorem dX0_mostFrequent_25 : decode cX0_mostFrequent 25 = .ok (.istore_n 1, 1) := by decide +kernel
theorem dX0_mostFrequent_26 : decode cX0_mostFrequent 26 = .ok (.aload_n 0, 1) := by decide +kernel
theorem dX0_mostFrequent_27 : decode cX0_mostFrequent 27 = .ok (.getfield 22, 3) := by decide +kernel
theorem dX0_mostFrequent_30 : decode cX0_mostFrequent 30 = .ok (.iload_n 3, 1) := by decide +kernel
theorem dX0_mostFrequent_31 : decode cX0_mostFrequent 31 = .ok (.iaload, 1) := by decide +kernel
theorem dX0_mostFrequent_32 : decode cX0_mostFrequent 32 = .ok (.istore_n 2, 1) := by decide +kernel
theorem dX0_mostFrequent_33 : decode cX0_mostFrequent 33 = .ok (.iinc 3 1, 3) := by decide +kernel
theorem dX0_mostFrequent_36 : decode cX0_mostFrequent 36 = .ok (.goto (-30), 3) := by decide +kernel
theorem dX0_mostFrequent_39 : decode cX0_mostFrequent 39 = .ok (.iload_n 1, 1) := by decide +kernel
theorem dX0_mostFrequent_40 : decode cX0_mostFrequent 40 = .ok (.ireturn, 1) := by decide +kernel
set_option maxRecDepth 20000 in
theorem ggX1_init_X8_init : GoodIn wsX1_init wsX8_init := goodIn_r _ [9, 10, 11, 12, 13, 14, 15, 16, 17, 18, 19, 20, 21, 22, 23, 24, 25, 26, 27, 28] (by decide +kernel) (by decide +kernel)
set_option maxRecDepth 20000 in
theorem gX1_init_X8_init : GoodIn wsX1_init (wsX8_init) := ggX1_init_X8_init
theorem dX1_init_0 : decode cX1_init 0 = .ok (.aload_n 0, 1) := by decide +kernel
theorem dX1_init_1 : decode cX1_init 1 = .ok (.iconst 0, 1) := by decide +kernel
theorem dX1_init_2 : decode cX1_init 2 = .ok (.invokespecial 3, 3) := by decide +kernel
theorem dX1_init_5 : decode cX1_init 5 = .ok (.aload_n 0, 1) := by decide +kernel
theorem dX1_init_6 : decode cX1_init 6 = .ok (.iload_n 1, 1) := by decide +kernel
theorem dX1_init_7 : decode cX1_init 7 = .ok (.putfield 9, 3) := by decide +kernel
theorem dX1_init_10 : decode cX1_init 10 = .ok (.aload_n 0, 1) := by decide +kernel
theorem dX1_init_11 : decode cX1_init 11 = .ok (.iload_n 2, 1) := by decide +kernel
theorem dX1_init_12 : decode cX1_init 12 = .ok (.putfield 15, 3) := by decide +kernel
theorem dX1_init_15 : decode cX1_init 15 = .ok (.aload_n 0, 1) := by decide +kernel
theorem dX1_init_16 : decode cX1_init 16 = .ok (.iload_n 3, 1) := by decide +kernel
theorem dX1_init_17 : decode cX1_init 17 = .ok (.putfield 18, 3) := by decide +kernel
theorem dX1_init_20 : decode cX1_init 20 = .ok (.aload_n 0, 1) := by decide +kernel
theorem dX1_init_21 : decode cX1_init 21 = .ok (.iload 4, 2) := by decide +kernel
theorem dX1_init_23 : decode cX1_init 23 = .ok (.putfield 21, 3) := by decide +kernel
theorem dX1_init_26 : decode cX1_init 26 = .ok (.aload_n 0, 1) := by decide +kernel
theorem dX1_init_27 : decode cX1_init 27 = .ok (.sipush 256, 3) := by decide +kernel
theorem dX1_init_30 : decode cX1_init 30 = .ok (.iload_n 2, 1) := by decide +kernel
theorem dX1_init_31 : decode cX1_init 31 = .ok (.isub, 1) := by decide +kernel
theorem dX1_init_32 : decode cX1_init 32 = .ok (.putfield 24, 3) := by decide +kernel
theorem dX1_init_35 : decode cX1_init 35 = .ok (.return_, 1) := by decide +kernel
theorem dX1_trait_0 : decode cX1_trait 0 = .ok (.iload_n 1, 1) := by decide +kernel
theorem dX1_trait_1 : decode cX1_trait 1 = .ok (.tableswitch 51 0 3 #[31, 36, 41, 46], 31) := by decide +kernel
theorem dX1_trait_32 : decode cX1_trait 32 = .ok (.aload_n 0, 1) := by decide +kernel
theorem dX1_trait_33 : decode cX1_trait 33 = .ok (.getfield 9, 3) := by decide +kernel
theorem dX1_trait_36 : decode cX1_trait 36 = .ok (.ireturn, 1) := by decide +kernel
theorem dX1_trait_37 : decode cX1_trait 37 = .ok (.aload_n 0, 1) := by decide +kernel
theorem dX1_trait_38 : decode cX1_trait 38 = .ok (.getfield 15, 3) := by decide +kernel
theorem dX1_trait_41 : decode cX1_trait 41 = .ok (.ireturn, 1) := by decide +kernel
theorem dX1_trait_42 : decode cX1_trait 42 = .ok (.aload_n 0, 1) := by decide +kernel
theorem dX1_trait_43 : decode cX1_trait 43 = .ok (.getfield 18, 3) := by decide +kernel
theorem dX1_trait_46 : decode cX1_trait 46 = .ok (.ireturn, 1) := by decide +kernel
theorem dX1_trait_47 : decode cX1_trait 47 = .ok (.aload_n 0, 1) := by decide +kernel
theorem dX1_trait_48 : decode cX1_trait 48 = .ok (.getfield 21, 3) := by decide +kernel
theorem dX1_trait_51 : decode cX1_trait 51 = .ok (.ireturn, 1) := by decide +kernel
theorem dX1_trait_52 : decode cX1_trait 52 = .ok (.iconst (-1), 1) := by decide +kernel
theorem dX1_trait_53 : decode cX1_trait 53 = .ok (.ireturn, 1) := by decide +kernel
set_option maxRecDepth 20000 in
theorem ggX1_write_X1_codeOf : GoodIn wsX1_write wsX1_codeOf := goodIn_r _ [5, 6, 7, 8, 9, 29, 30, 31, 32, 33, 34] (by decide +kernel) (by decide +kernel)
set_option maxRecDepth 20000 in
theorem gX1_write_X1_codeOf : GoodIn wsX1_write (wsV RX1 27 RX1 yX1_codeOf wsX1_codeOf) := goodIn_app (goodIn_of _ (by decide +kernel)) ggX1_write_X1_codeOf
set_option maxRecDepth 20000 in
theorem ggX1_write_X1_writeCode : GoodIn wsX1_write wsX1_writeCode := goodIn_r _ [13, 9, 14, 15, 16, 17, 18, 19, 20, 21, 22, 23, 24, 25, 29, 30, 31, 32, 33, 34, 35, 36, 37, 38, 39, 40, 41] (by decide +kernel) (by decide +kernel)
set_option maxRecDepth 20000 in
theorem gX1_write_X1_writeCode : GoodIn wsX1_write (wsV RX1 37 RX1 yX1_writeCode wsX1_writeCode) := goodIn_app (goodIn_of _ (by decide +kernel)) ggX1_write_X1_writeCode
theorem dX1_write_0 : decode cX1_write 0 = .ok (.iconst 0, 1) := by decide +kernel
theorem dX1_write_1 : decode cX1_write 1 = .ok (.istore 5, 2) := by decide +kernel
theorem dX1_write_3 : decode cX1_write 3 = .ok (.iload_n 3, 1) := by decide +kernel
theorem dX1_write_4 : decode cX1_write 4 = .ok (.istore 6, 2) := by decide +kernel
theorem dX1_write_6 : decode cX1_write 6 = .ok (.iload 6, 2) := by decide +kernel
theorem dX1_write_8 : decode cX1_write 8 = .ok (.iload_n 3, 1) := by decide +kernel
theorem dX1_write_9 : decode cX1_write 9 = .ok (.iload 4, 2) := by decide +kernel
theorem dX1_write_11 : decode cX1_write 11 = .ok (.iadd, 1) := by decide +kernel
theorem dX1_write_12 : decode cX1_write 12 = .ok (.if_icmp .ge 38, 3) := by decide +kernel
theorem dX1_write_15 : decode cX1_write 15 = .ok (.aload_n 0, 1) := by decide +kernel
theorem dX1_write_16 : decode cX1_write 16 = .ok (.aload_n 0, 1) := by decide +kernel
theorem dX1_write_17 : decode cX1_write 17 = .ok (.aload_n 2, 1) := by decide +kernel
theorem dX1_write_18 : decode cX1_write 18 = .ok (.iload 6, 2) := by decide +kernel
theorem dX1_write_20 : decode cX1_write 20 = .ok (.iaload, 1) := by decide +kernel
theorem dX1_write_21 : decode cX1_write 21 = .ok (.iload 5, 2) := by decide +kernel
theorem dX1_write_23 : decode cX1_write 23 = .ok (.invokevirtual 27, 3) := by decide +kernel
theorem dX1_write_26 : decode cX1_write 26 = .ok (.aload_n 1, 1) := by decide +kernel
theorem dX1_write_27 : decode cX1_write 27 = .ok (.getfield 31, 3) := by decide +kernel
theorem dX1_write_30 : decode cX1_write 30 = .ok (.invokevirtual 37, 3) := by decide +kernel
theorem dX1_write_33 : decode cX1_write 33 = .ok (.ifCond .ne 5, 3) := by decide +kernel
theorem dX1_write_36 : decode cX1_write 36 = .ok (.iconst 0, 1) := by decide +kernel
theorem dX1_write_37 : decode cX1_write 37 = .ok (.ireturn, 1) := by decide +kernel
theorem dX1_write_38 : decode cX1_write 38 = .ok (.aload_n 2, 1) := by decide +kernel
theorem dX1_write_39 : decode cX1_write 39 = .ok (.iload 6, 2) := by decide +kernel
theorem dX1_write_41 : decode cX1_write 41 = .ok (.iaload, 1) := by decide +kernel
theorem dX1_write_42 : decode cX1_write 42 = .ok (.istore 5, 2) := by decide +kernel
theorem dX1_write_44 : decode cX1_write 44 = .ok (.iinc 6 1, 3) := by decide +kernel
theorem dX1_write_47 : decode cX1_write 47 = .ok (.goto (-41), 3) := by decide +kernel
theorem dX1_write_50 : decode cX1_write 50 = .ok (.iconst 1, 1) := by decide +kernel
theorem dX1_write_51 : decode cX1_write 51 = .ok (.ireturn, 1) := by decide +kernel
set_option maxRecDepth 20000 in
theorem ggX1_read_X1_readCode : GoodIn wsX1_read wsX1_readCode := goodIn_r _ [8, 9, 1, 10, 11, 12, 13, 14, 15, 16, 17, 18, 19, 20, 21, 22, 23, 46, 47, 48, 49, 50, 51, 39, 40, 41, 42, 43, 44, 45] (by decide +kernel) (by decide +kernel)
set_option maxRecDepth 20000 in
theorem gX1_read_X1_readCode : GoodIn wsX1_read (wsV RX1 46 RX1 yX1_readCode wsX1_readCode) := goodIn_app (goodIn_of _ (by decide +kernel)) ggX1_read_X1_readCode
set_option maxRecDepth 20000 in
theorem ggX1_read_X7_fail : GoodIn wsX1_read wsX7_fail := goodIn_r _ [27, 28, 29, 39, 40, 41, 42, 43, 44, 45] (by decide +kernel) (by decide +kernel)
set_option maxRecDepth 20000 in
theorem gX1_read_X7_fail : GoodIn wsX1_read (wsV RX1 52 RX7 yX7_fail wsX7_fail) := goodIn_app (goodIn_of _ (by decide +kernel)) ggX1_read_X7_fail
set_option maxRecDepth 20000 in
theorem ggX1_read_X1_numberOf : GoodIn wsX1_read wsX1_numberOf := goodIn_r _ [33, 2, 34, 35, 46, 47, 48, 49, 50, 51] (by decide +kernel) (by decide +kernel)
set_option maxRecDepth 20000 in
theorem gX1_read_X1_numberOf : GoodIn wsX1_read (wsV RX1 56 RX1 yX1_numberOf wsX1_numberOf) := goodIn_app (goodIn_of _ (by decide +kernel)) ggX1_read_X1_numberOf
theorem dX1_read_0 : decode cX1_read 0 = .ok (.aload_n 1, 1) := by decide +kernel
theorem dX1_read_1 : decode cX1_read 1 = .ok (.getfield 31, 3) := by decide +kernel
theorem dX1_read_4 : decode cX1_read 4 = .ok (.astore 5, 2) := by decide +kernel
theorem dX1_read_6 : decode cX1_read 6 = .ok (.iconst 0, 1) := by decide +kernel
theorem dX1_read_7 : decode cX1_read 7 = .ok (.istore 6, 2) := by decide +kernel
theorem dX1_read_9 : decode cX1_read 9 = .ok (.iload_n 3, 1) := by decide +kernel
theorem dX1_read_10 : decode cX1_read 10 = .ok (.istore 7, 2) := by decide +kernel
theorem dX1_read_12 : decode cX1_read 12 = .ok (.iload 7, 2) := by decide +kernel
theorem dX1_read_14 : decode cX1_read 14 = .ok (.iload_n 3, 1) := by decide +kernel
theorem dX1_read_15 : decode cX1_read 15 = .ok (.iload 4, 2) := by decide +kernel
theorem dX1_read_17 : decode cX1_read 17 = .ok (.iadd, 1) := by decide +kernel
theorem dX1_read_18 : decode cX1_read 18 = .ok (.if_icmp .ge 98, 3) := by decide +kernel
theorem dX1_read_21 : decode cX1_read 21 = .ok (.aload 5, 2) := by decide +kernel
theorem dX1_read_23 : decode cX1_read 23 = .ok (.getfield 41, 3) := by decide +kernel
theorem dX1_read_26 : decode cX1_read 26 = .ok (.istore 8, 2) := by decide +kernel
theorem dX1_read_28 : decode cX1_read 28 = .ok (.aload_n 0, 1) := by decide +kernel
theorem dX1_read_29 : decode cX1_read 29 = .ok (.aload 5, 2) := by decide +kernel
theorem dX1_read_31 : decode cX1_read 31 = .ok (.invokevirtual 46, 3) := by decide +kernel
theorem dX1_read_34 : decode cX1_read 34 = .ok (.lstore 9, 2) := by decide +kernel
theorem dX1_read_36 : decode cX1_read 36 = .ok (.lload 9, 2) := by decide +kernel
theorem dX1_read_38 : decode cX1_read 38 = .ok (.ldc2_w 50, 3) := by decide +kernel
theorem dX1_read_41 : decode cX1_read 41 = .ok (.lcmp, 1) := by decide +kernel
theorem dX1_read_42 : decode cX1_read 42 = .ok (.ifCond .ne 12, 3) := by decide +kernel
theorem dX1_read_45 : decode cX1_read 45 = .ok (.aload 5, 2) := by decide +kernel
theorem dX1_read_47 : decode cX1_read 47 = .ok (.iconst 1, 1) := by decide +kernel
theorem dX1_read_48 : decode cX1_read 48 = .ok (.iload 8, 2) := by decide +kernel
theorem dX1_read_50 : decode cX1_read 50 = .ok (.invokevirtual 52, 3) := by decide +kernel
theorem dX1_read_53 : decode cX1_read 53 = .ok (.ireturn, 1) := by decide +kernel
theorem dX1_read_54 : decode cX1_read 54 = .ok (.aload_n 0, 1) := by decide +kernel
theorem dX1_read_55 : decode cX1_read 55 = .ok (.lload 9, 2) := by decide +kernel
theorem dX1_read_57 : decode cX1_read 57 = .ok (.invokevirtual 56, 3) := by decide +kernel
theorem dX1_read_60 : decode cX1_read 60 = .ok (.lstore 11, 2) := by decide +kernel
theorem dX1_read_62 : decode cX1_read 62 = .ok (.lload 11, 2) := by decide +kernel
theorem dX1_read_64 : decode cX1_read 64 = .ok (.ldc2_w 60, 3) := by decide +kernel
theorem dX1_read_67 : decode cX1_read 67 = .ok (.lcmp, 1) := by decide +kernel
theorem dX1_read_68 : decode cX1_read 68 = .ok (.ifCond .ne 12, 3) := by decide +kernel
theorem dX1_read_71 : decode cX1_read 71 = .ok (.aload 5, 2) := by decide +kernel
theorem dX1_read_73 : decode cX1_read 73 = .ok (.iconst 2, 1) := by decide +kernel
theorem dX1_read_74 : decode cX1_read 74 = .ok (.iload 8, 2) := by decide +kernel
theorem dX1_read_76 : decode cX1_read 76 = .ok (.invokevirtual 52, 3) := by decide +kernel
theorem dX1_read_79 : decode cX1_read 79 = .ok (.ireturn, 1) := by decide +kernel
theorem dX1_read_80 : decode cX1_read 80 = .ok (.aload_n 2, 1) := by decide +kernel
theorem dX1_read_81 : decode cX1_read 81 = .ok (.iload 7, 2) := by decide +kernel
theorem dX1_read_83 : decode cX1_read 83 = .ok (.aload_n 0, 1) := by decide +kernel
theorem dX1_read_84 : decode cX1_read 84 = .ok (.getfield 21, 3) := by decide +kernel
theorem dX1_read_87 : decode cX1_read 87 = .ok (.iconst 1, 1) := by decide +kernel
theorem dX1_read_88 : decode cX1_read 88 = .ok (.if_icmp .ne 12, 3) := by decide +kernel
theorem dX1_read_91 : decode cX1_read 91 = .ok (.iload 6, 2) := by decide +kernel
theorem dX1_read_93 : decode cX1_read 93 = .ok (.lload 11, 2) := by decide +kernel
theorem dX1_read_95 : decode cX1_read 95 = .ok (.l2i, 1) := by decide +kernel
theorem dX1_read_96 : decode cX1_read 96 = .ok (.iadd, 1) := by decide +kernel
theorem dX1_read_97 : decode cX1_read 97 = .ok (.goto 6, 3) := by decide +kernel
theorem dX1_read_100 : decode cX1_read 100 = .ok (.lload 11, 2) := by decide +kernel
theorem dX1_read_102 : decode cX1_read 102 = .ok (.l2i, 1) := by decide +kernel
theorem dX1_read_103 : decode cX1_read 103 = .ok (.iastore, 1) := by decide +kernel
theorem dX1_read_104 : decode cX1_read 104 = .ok (.aload_n 2, 1) := by decide +kernel
theorem dX1_read_105 : decode cX1_read 105 = .ok (.iload 7, 2) := by decide +kernel
theorem dX1_read_107 : decode cX1_read 107 = .ok (.iaload, 1) := by decide +kernel
theorem dX1_read_108 : decode cX1_read 108 = .ok (.istore 6, 2) := by decide +kernel
theorem dX1_read_110 : decode cX1_read 110 = .ok (.iinc 7 1, 3) := by decide +kernel
theorem dX1_read_113 : decode cX1_read 113 = .ok (.goto (-101), 3) := by decide +kernel
theorem dX1_read_116 : decode cX1_read 116 = .ok (.iconst 1, 1) := by decide +kernel
theorem dX1_read_117 : decode cX1_read 117 = .ok (.ireturn, 1) := by decide +kernel
set_option maxRecDepth 20000 in
theorem ggX1_bytesOf_X1_codeOf : GoodIn wsX1_bytesOf wsX1_codeOf := goodIn_r _ [10, 11, 12, 13, 1, 14, 15, 16, 17, 18, 19] (by decide +kernel) (by decide +kernel)
set_option maxRecDepth 20000 in
theorem gX1_bytesOf_X1_codeOf : GoodIn wsX1_bytesOf (wsV RX1 27 RX1 yX1_codeOf wsX1_codeOf) := goodIn_app (goodIn_of _ (by decide +kernel)) ggX1_bytesOf_X1_codeOf
theorem dX1_bytesOf_0 : decode cX1_bytesOf 0 = .ok (.aload_n 0, 1) := by decide +kernel
theorem dX1_bytesOf_1 : decode cX1_bytesOf 1 = .ok (.iload_n 1, 1) := by decide +kernel
theorem dX1_bytesOf_2 : decode cX1_bytesOf 2 = .ok (.iload_n 2, 1) := by decide +kernel
theorem dX1_bytesOf_3 : decode cX1_bytesOf 3 = .ok (.invokevirtual 27, 3) := by decide +kernel
theorem dX1_bytesOf_6 : decode cX1_bytesOf 6 = .ok (.lstore_n 3, 1) := by decide +kernel
theorem dX1_bytesOf_7 : decode cX1_bytesOf 7 = .ok (.lload_n 3, 1) := by decide +kernel
theorem dX1_bytesOf_8 : decode cX1_bytesOf 8 = .ok (.ldc2_w 50, 3) := by decide +kernel
theorem dX1_bytesOf_11 : decode cX1_bytesOf 11 = .ok (.lcmp, 1) := by decide +kernel
theorem dX1_bytesOf_12 : decode cX1_bytesOf 12 = .ok (.ifCond .ne 5, 3) := by decide +kernel
theorem dX1_bytesOf_15 : decode cX1_bytesOf 15 = .ok (.iconst (-1), 1) := by decide +kernel
theorem dX1_bytesOf_16 : decode cX1_bytesOf 16 = .ok (.ireturn, 1) := by decide +kernel
theorem dX1_bytesOf_17 : decode cX1_bytesOf 17 = .ok (.iconst 1, 1) := by decide +kernel
theorem dX1_bytesOf_18 : decode cX1_bytesOf 18 = .ok (.istore 5, 2) := by decide +kernel
theorem dX1_bytesOf_20 : decode cX1_bytesOf 20 = .ok (.iload 5, 2) := by decide +kernel
theorem dX1_bytesOf_22 : decode cX1_bytesOf 22 = .ok (.aload_n 0, 1) := by decide +kernel
theorem dX1_bytesOf_23 : decode cX1_bytesOf 23 = .ok (.getfield 9, 3) := by decide +kernel
theorem dX1_bytesOf_26 : decode cX1_bytesOf 26 = .ok (.if_icmp .ge 36, 3) := by decide +kernel
theorem dX1_bytesOf_29 : decode cX1_bytesOf 29 = .ok (.lload_n 3, 1) := by decide +kernel
theorem dX1_bytesOf_30 : decode cX1_bytesOf 30 = .ok (.aload_n 0, 1) := by decide +kernel
theorem dX1_bytesOf_31 : decode cX1_bytesOf 31 = .ok (.getfield 24, 3) := by decide +kernel
theorem dX1_bytesOf_34 : decode cX1_bytesOf 34 = .ok (.i2l, 1) := by decide +kernel
theorem dX1_bytesOf_35 : decode cX1_bytesOf 35 = .ok (.lcmp, 1) := by decide +kernel
theorem dX1_bytesOf_36 : decode cX1_bytesOf 36 = .ok (.ifCond .ge 6, 3) := by decide +kernel
theorem dX1_bytesOf_39 : decode cX1_bytesOf 39 = .ok (.iload 5, 2) := by decide +kernel
theorem dX1_bytesOf_41 : decode cX1_bytesOf 41 = .ok (.ireturn, 1) := by decide +kernel
theorem dX1_bytesOf_42 : decode cX1_bytesOf 42 = .ok (.lload_n 3, 1) := by decide +kernel
theorem dX1_bytesOf_43 : decode cX1_bytesOf 43 = .ok (.aload_n 0, 1) := by decide +kernel
theorem dX1_bytesOf_44 : decode cX1_bytesOf 44 = .ok (.getfield 24, 3) := by decide +kernel
theorem dX1_bytesOf_47 : decode cX1_bytesOf 47 = .ok (.i2l, 1) := by decide +kernel
theorem dX1_bytesOf_48 : decode cX1_bytesOf 48 = .ok (.lsub, 1) := by decide +kernel
theorem dX1_bytesOf_49 : decode cX1_bytesOf 49 = .ok (.aload_n 0, 1) := by decide +kernel
theorem dX1_bytesOf_50 : decode cX1_bytesOf 50 = .ok (.getfield 15, 3) := by decide +kernel
theorem dX1_bytesOf_53 : decode cX1_bytesOf 53 = .ok (.i2l, 1) := by decide +kernel
theorem dX1_bytesOf_54 : decode cX1_bytesOf 54 = .ok (.ldiv, 1) := by decide +kernel
theorem dX1_bytesOf_55 : decode cX1_bytesOf 55 = .ok (.lstore_n 3, 1) := by decide +kernel
theorem dX1_bytesOf_56 : decode cX1_bytesOf 56 = .ok (.iinc 5 1, 3) := by decide +kernel
theorem dX1_bytesOf_59 : decode cX1_bytesOf 59 = .ok (.goto (-39), 3) := by decide +kernel
theorem dX1_bytesOf_62 : decode cX1_bytesOf 62 = .ok (.lload_n 3, 1) := by decide +kernel
theorem dX1_bytesOf_63 : decode cX1_bytesOf 63 = .ok (.ldc2_w 62, 3) := by decide +kernel
theorem dX1_bytesOf_66 : decode cX1_bytesOf 66 = .ok (.lcmp, 1) := by decide +kernel
theorem dX1_bytesOf_67 : decode cX1_bytesOf 67 = .ok (.ifCond .ge 10, 3) := by decide +kernel
theorem dX1_bytesOf_70 : decode cX1_bytesOf 70 = .ok (.aload_n 0, 1) := by decide +kernel
theorem dX1_bytesOf_71 : decode cX1_bytesOf 71 = .ok (.getfield 9, 3) := by decide +kernel
theorem dX1_bytesOf_74 : decode cX1_bytesOf 74 = .ok (.goto 4, 3) := by decide +kernel
theorem dX1_bytesOf_77 : decode cX1_bytesOf 77 = .ok (.iconst (-1), 1) := by decide +kernel
theorem dX1_bytesOf_78 : decode cX1_bytesOf 78 = .ok (.ireturn, 1) := by decide +kernel
set_option maxRecDepth 20000 in
theorem ggX1_writeCode_X7_draft : GoodIn wsX1_writeCode wsX7_draft := goodIn_r _ [10, 11, 12, 13, 20, 21, 22, 23, 24, 25, 26] (by decide +kernel) (by decide +kernel)
set_option maxRecDepth 20000 in
theorem gX1_writeCode_X7_draft : GoodIn wsX1_writeCode (wsV RX1 64 RX7 yX7_draft wsX7_draft) := goodIn_app (goodIn_of _ (by decide +kernel)) ggX1_writeCode_X7_draft
theorem dX1_writeCode_0 : decode cX1_writeCode 0 = .ok (.lload_n 1, 1) := by decide +kernel
theorem dX1_writeCode_1 : decode cX1_writeCode 1 = .ok (.ldc2_w 50, 3) := by decide +kernel
theorem dX1_writeCode_4 : decode cX1_writeCode 4 = .ok (.lcmp, 1) := by decide +kernel
theorem dX1_writeCode_5 : decode cX1_writeCode 5 = .ok (.ifCond .ne 5, 3) := by decide +kernel
theorem dX1_writeCode_8 : decode cX1_writeCode 8 = .ok (.iconst 0, 1) := by decide +kernel
theorem dX1_writeCode_9 : decode cX1_writeCode 9 = .ok (.ireturn, 1) := by decide +kernel
theorem dX1_writeCode_10 : decode cX1_writeCode 10 = .ok (.lload_n 1, 1) := by decide +kernel
theorem dX1_writeCode_11 : decode cX1_writeCode 11 = .ok (.lstore 4, 2) := by decide +kernel
theorem dX1_writeCode_13 : decode cX1_writeCode 13 = .ok (.iconst 1, 1) := by decide +kernel
theorem dX1_writeCode_14 : decode cX1_writeCode 14 = .ok (.istore 6, 2) := by decide +kernel
theorem dX1_writeCode_16 : decode cX1_writeCode 16 = .ok (.iload 6, 2) := by decide +kernel
theorem dX1_writeCode_18 : decode cX1_writeCode 18 = .ok (.aload_n 0, 1) := by decide +kernel
theorem dX1_writeCode_19 : decode cX1_writeCode 19 = .ok (.getfield 9, 3) := by decide +kernel
theorem dX1_writeCode_22 : decode cX1_writeCode 22 = .ok (.if_icmp .ge 69, 3) := by decide +kernel
theorem dX1_writeCode_25 : decode cX1_writeCode 25 = .ok (.lload 4, 2) := by decide +kernel
theorem dX1_writeCode_27 : decode cX1_writeCode 27 = .ok (.aload_n 0, 1) := by decide +kernel
theorem dX1_writeCode_28 : decode cX1_writeCode 28 = .ok (.getfield 24, 3) := by decide +kernel
theorem dX1_writeCode_31 : decode cX1_writeCode 31 = .ok (.i2l, 1) := by decide +kernel
theorem dX1_writeCode_32 : decode cX1_writeCode 32 = .ok (.lcmp, 1) := by decide +kernel
theorem dX1_writeCode_33 : decode cX1_writeCode 33 = .ok (.ifCond .ge 12, 3) := by decide +kernel
theorem dX1_writeCode_36 : decode cX1_writeCode 36 = .ok (.aload_n 3, 1) := by decide +kernel
theorem dX1_writeCode_37 : decode cX1_writeCode 37 = .ok (.lload 4, 2) := by decide +kernel
theorem dX1_writeCode_39 : decode cX1_writeCode 39 = .ok (.l2i, 1) := by decide +kernel
theorem dX1_writeCode_40 : decode cX1_writeCode 40 = .ok (.invokevirtual 64, 3) := by decide +kernel
theorem dX1_writeCode_43 : decode cX1_writeCode 43 = .ok (.iconst 1, 1) := by decide +kernel
theorem dX1_writeCode_44 : decode cX1_writeCode 44 = .ok (.ireturn, 1) := by decide +kernel
theorem dX1_writeCode_45 : decode cX1_writeCode 45 = .ok (.aload_n 3, 1) := by decide +kernel
theorem dX1_writeCode_46 : decode cX1_writeCode 46 = .ok (.aload_n 0, 1) := by decide +kernel
theorem dX1_writeCode_47 : decode cX1_writeCode 47 = .ok (.getfield 24, 3) := by decide +kernel
theorem dX1_writeCode_50 : decode cX1_writeCode 50 = .ok (.lload 4, 2) := by decide +kernel
theorem dX1_writeCode_52 : decode cX1_writeCode 52 = .ok (.aload_n 0, 1) := by decide +kernel
theorem dX1_writeCode_53 : decode cX1_writeCode 53 = .ok (.getfield 24, 3) := by decide +kernel
theorem dX1_writeCode_56 : decode cX1_writeCode 56 = .ok (.i2l, 1) := by decide +kernel
theorem dX1_writeCode_57 : decode cX1_writeCode 57 = .ok (.lsub, 1) := by decide +kernel
theorem dX1_writeCode_58 : decode cX1_writeCode 58 = .ok (.aload_n 0, 1) := by decide +kernel
theorem dX1_writeCode_59 : decode cX1_writeCode 59 = .ok (.getfield 15, 3) := by decide +kernel
theorem dX1_writeCode_62 : decode cX1_writeCode 62 = .ok (.i2l, 1) := by decide +kernel
theorem dX1_writeCode_63 : decode cX1_writeCode 63 = .ok (.lrem, 1) := by decide +kernel
theorem dX1_writeCode_64 : decode cX1_writeCode 64 = .ok (.l2i, 1) := by decide +kernel
theorem dX1_writeCode_65 : decode cX1_writeCode 65 = .ok (.iadd, 1) := by decide +kernel
theorem dX1_writeCode_66 : decode cX1_writeCode 66 = .ok (.invokevirtual 64, 3) := by decide +kernel
theorem dX1_writeCode_69 : decode cX1_writeCode 69 = .ok (.lload 4, 2) := by decide +kernel
theorem dX1_writeCode_71 : decode cX1_writeCode 71 = .ok (.aload_n 0, 1) := by decide +kernel
theorem dX1_writeCode_72 : decode cX1_writeCode 72 = .ok (.getfield 24, 3) := by decide +kernel
theorem dX1_writeCode_75 : decode cX1_writeCode 75 = .ok (.i2l, 1) := by decide +kernel
theorem dX1_writeCode_76 : decode cX1_writeCode 76 = .ok (.lsub, 1) := by decide +kernel
theorem dX1_writeCode_77 : decode cX1_writeCode 77 = .ok (.aload_n 0, 1) := by decide +kernel
theorem dX1_writeCode_78 : decode cX1_writeCode 78 = .ok (.getfield 15, 3) := by decide +kernel
theorem dX1_writeCode_81 : decode cX1_writeCode 81 = .ok (.i2l, 1) := by decide +kernel
theorem dX1_writeCode_82 : decode cX1_writeCode 82 = .ok (.ldiv, 1) := by decide +kernel
theorem dX1_writeCode_83 : decode cX1_writeCode 83 = .ok (.lstore 4, 2) := by decide +kernel
theorem dX1_writeCode_85 : decode cX1_writeCode 85 = .ok (.iinc 6 1, 3) := by decide +kernel
theorem dX1_writeCode_88 : decode cX1_writeCode 88 = .ok (.goto (-72), 3) := by decide +kernel
theorem dX1_writeCode_91 : decode cX1_writeCode 91 = .ok (.aload_n 3, 1) := by decide +kernel
theorem dX1_writeCode_92 : decode cX1_writeCode 92 = .ok (.lload 4, 2) := by decide +kernel
theorem dX1_writeCode_94 : decode cX1_writeCode 94 = .ok (.l2i, 1) := by decide +kernel
theorem dX1_writeCode_95 : decode cX1_writeCode 95 = .ok (.invokevirtual 64, 3) := by decide +kernel
theorem dX1_writeCode_98 : decode cX1_writeCode 98 = .ok (.lload 4, 2) := by decide +kernel
theorem dX1_writeCode_100 : decode cX1_writeCode 100 = .ok (.ldc2_w 62, 3) := by decide +kernel
theorem dX1_writeCode_103 : decode cX1_writeCode 103 = .ok (.lcmp, 1) := by decide +kernel
theorem dX1_writeCode_104 : decode cX1_writeCode 104 = .ok (.ifCond .ge 7, 3) := by decide +kernel
theorem dX1_writeCode_107 : decode cX1_writeCode 107 = .ok (.iconst 1, 1) := by decide +kernel
theorem dX1_writeCode_108 : decode cX1_writeCode 108 = .ok (.goto 4, 3) := by decide +kernel
theorem dX1_writeCode_111 : decode cX1_writeCode 111 = .ok (.iconst 0, 1) := by decide +kernel
theorem dX1_writeCode_112 : decode cX1_writeCode 112 = .ok (.ireturn, 1) := by decide +kernel
set_option maxRecDepth 20000 in
theorem ggX1_readCode_X7_next : GoodIn wsX1_readCode wsX7_next := goodIn_r _ [9, 10, 11, 12, 13, 8, 14, 15, 16, 23, 24, 25, 26, 27, 28, 29] (by decide +kernel) (by decide +kernel)
set_option maxRecDepth 20000 in
theorem gX1_readCode_X7_next : GoodIn wsX1_readCode (wsV RX1 67 RX7 yX7_next wsX7_next) := goodIn_app (goodIn_of _ (by decide +kernel)) ggX1_readCode_X7_next
theorem dX1_readCode_0 : decode cX1_readCode 0 = .ok (.lconst 0, 1) := by decide +kernel
theorem dX1_readCode_1 : decode cX1_readCode 1 = .ok (.lstore_n 2, 1) := by decide +kernel
theorem dX1_readCode_2 : decode cX1_readCode 2 = .ok (.lconst 1, 1) := by decide +kernel
theorem dX1_readCode_3 : decode cX1_readCode 3 = .ok (.lstore 4, 2) := by decide +kernel
theorem dX1_readCode_5 : decode cX1_readCode 5 = .ok (.iconst 0, 1) := by decide +kernel
theorem dX1_readCode_6 : decode cX1_readCode 6 = .ok (.istore 6, 2) := by decide +kernel
theorem dX1_readCode_8 : decode cX1_readCode 8 = .ok (.iload 6, 2) := by decide +kernel
theorem dX1_readCode_10 : decode cX1_readCode 10 = .ok (.aload_n 0, 1) := by decide +kernel
theorem dX1_readCode_11 : decode cX1_readCode 11 = .ok (.getfield 9, 3) := by decide +kernel
theorem dX1_readCode_14 : decode cX1_readCode 14 = .ok (.if_icmp .ge 55, 3) := by decide +kernel
theorem dX1_readCode_17 : decode cX1_readCode 17 = .ok (.aload_n 1, 1) := by decide +kernel
theorem dX1_readCode_18 : decode cX1_readCode 18 = .ok (.invokevirtual 67, 3) := by decide +kernel
theorem dX1_readCode_21 : decode cX1_readCode 21 = .ok (.istore 7, 2) := by decide +kernel
theorem dX1_readCode_23 : decode cX1_readCode 23 = .ok (.iload 7, 2) := by decide +kernel
theorem dX1_readCode_25 : decode cX1_readCode 25 = .ok (.iconst (-1), 1) := by decide +kernel
theorem dX1_readCode_26 : decode cX1_readCode 26 = .ok (.if_icmp .ne 7, 3) := by decide +kernel
theorem dX1_readCode_29 : decode cX1_readCode 29 = .ok (.ldc2_w 50, 3) := by decide +kernel
theorem dX1_readCode_32 : decode cX1_readCode 32 = .ok (.lreturn, 1) := by decide +kernel
theorem dX1_readCode_33 : decode cX1_readCode 33 = .ok (.lload_n 2, 1) := by decide +kernel
theorem dX1_readCode_34 : decode cX1_readCode 34 = .ok (.iload 7, 2) := by decide +kernel
theorem dX1_readCode_36 : decode cX1_readCode 36 = .ok (.i2l, 1) := by decide +kernel
theorem dX1_readCode_37 : decode cX1_readCode 37 = .ok (.lload 4, 2) := by decide +kernel
theorem dX1_readCode_39 : decode cX1_readCode 39 = .ok (.lmul, 1) := by decide +kernel
theorem dX1_readCode_40 : decode cX1_readCode 40 = .ok (.ladd, 1) := by decide +kernel
theorem dX1_readCode_41 : decode cX1_readCode 41 = .ok (.lstore_n 2, 1) := by decide +kernel
theorem dX1_readCode_42 : decode cX1_readCode 42 = .ok (.iload 7, 2) := by decide +kernel
theorem dX1_readCode_44 : decode cX1_readCode 44 = .ok (.aload_n 0, 1) := by decide +kernel
theorem dX1_readCode_45 : decode cX1_readCode 45 = .ok (.getfield 24, 3) := by decide +kernel
theorem dX1_readCode_48 : decode cX1_readCode 48 = .ok (.if_icmp .ge 5, 3) := by decide +kernel
theorem dX1_readCode_51 : decode cX1_readCode 51 = .ok (.lload_n 2, 1) := by decide +kernel
theorem dX1_readCode_52 : decode cX1_readCode 52 = .ok (.lreturn, 1) := by decide +kernel
theorem dX1_readCode_53 : decode cX1_readCode 53 = .ok (.lload 4, 2) := by decide +kernel
theorem dX1_readCode_55 : decode cX1_readCode 55 = .ok (.aload_n 0, 1) := by decide +kernel
theorem dX1_readCode_56 : decode cX1_readCode 56 = .ok (.getfield 15, 3) := by decide +kernel
theorem dX1_readCode_59 : decode cX1_readCode 59 = .ok (.i2l, 1) := by decide +kernel
theorem dX1_readCode_60 : decode cX1_readCode 60 = .ok (.lmul, 1) := by decide +kernel
theorem dX1_readCode_61 : decode cX1_readCode 61 = .ok (.lstore 4, 2) := by decide +kernel
theorem dX1_readCode_63 : decode cX1_readCode 63 = .ok (.iinc 6 1, 3) := by decide +kernel
theorem dX1_readCode_66 : decode cX1_readCode 66 = .ok (.goto (-58), 3) := by decide +kernel
theorem dX1_readCode_69 : decode cX1_readCode 69 = .ok (.lload_n 2, 1) := by decide +kernel
theorem dX1_readCode_70 : decode cX1_readCode 70 = .ok (.lreturn, 1) := by decide +kernel
theorem dX1_codeOf_0 : decode cX1_codeOf 0 = .ok (.aload_n 0, 1) := by decide +kernel
theorem dX1_codeOf_1 : decode cX1_codeOf 1 = .ok (.getfield 21, 3) := by decide +kernel
theorem dX1_codeOf_4 : decode cX1_codeOf 4 = .ok (.iconst 1, 1) := by decide +kernel
theorem dX1_codeOf_5 : decode cX1_codeOf 5 = .ok (.if_icmp .ne 10, 3) := by decide +kernel
theorem dX1_codeOf_8 : decode cX1_codeOf 8 = .ok (.iload_n 1, 1) := by decide +kernel
theorem dX1_codeOf_9 : decode cX1_codeOf 9 = .ok (.iload_n 2, 1) := by decide +kernel
theorem dX1_codeOf_10 : decode cX1_codeOf 10 = .ok (.isub, 1) := by decide +kernel
theorem dX1_codeOf_11 : decode cX1_codeOf 11 = .ok (.i2l, 1) := by decide +kernel
theorem dX1_codeOf_12 : decode cX1_codeOf 12 = .ok (.goto 5, 3) := by decide +kernel
theorem dX1_codeOf_15 : decode cX1_codeOf 15 = .ok (.iload_n 1, 1) := by decide +kernel
theorem dX1_codeOf_16 : decode cX1_codeOf 16 = .ok (.i2l, 1) := by decide +kernel
theorem dX1_codeOf_17 : decode cX1_codeOf 17 = .ok (.lstore_n 3, 1) := by decide +kernel
theorem dX1_codeOf_18 : decode cX1_codeOf 18 = .ok (.lload_n 3, 1) := by decide +kernel
theorem dX1_codeOf_19 : decode cX1_codeOf 19 = .ok (.lconst 0, 1) := by decide +kernel
theorem dX1_codeOf_20 : decode cX1_codeOf 20 = .ok (.lcmp, 1) := by decide +kernel
theorem dX1_codeOf_21 : decode cX1_codeOf 21 = .ok (.ifCond .lt 28, 3) := by decide +kernel
theorem dX1_codeOf_24 : decode cX1_codeOf 24 = .ok (.aload_n 0, 1) := by decide +kernel
theorem dX1_codeOf_25 : decode cX1_codeOf 25 = .ok (.getfield 18, 3) := by decide +kernel
theorem dX1_codeOf_28 : decode cX1_codeOf 28 = .ok (.ifCond .ne 7, 3) := by decide +kernel
theorem dX1_codeOf_31 : decode cX1_codeOf 31 = .ok (.lload_n 3, 1) := by decide +kernel
theorem dX1_codeOf_32 : decode cX1_codeOf 32 = .ok (.goto 16, 3) := by decide +kernel
theorem dX1_codeOf_35 : decode cX1_codeOf 35 = .ok (.lload_n 3, 1) := by decide +kernel
theorem dX1_codeOf_36 : decode cX1_codeOf 36 = .ok (.lload_n 3, 1) := by decide +kernel
theorem dX1_codeOf_37 : decode cX1_codeOf 37 = .ok (.iconst 1, 1) := by decide +kernel
theorem dX1_codeOf_38 : decode cX1_codeOf 38 = .ok (.aload_n 0, 1) := by decide +kernel
theorem dX1_codeOf_39 : decode cX1_codeOf 39 = .ok (.getfield 18, 3) := by decide +kernel
theorem dX1_codeOf_42 : decode cX1_codeOf 42 = .ok (.ishl, 1) := by decide +kernel
theorem dX1_codeOf_43 : decode cX1_codeOf 43 = .ok (.iconst 1, 1) := by decide +kernel
theorem dX1_codeOf_44 : decode cX1_codeOf 44 = .ok (.isub, 1) := by decide +kernel
theorem dX1_codeOf_45 : decode cX1_codeOf 45 = .ok (.i2l, 1) := by decide +kernel
theorem dX1_codeOf_46 : decode cX1_codeOf 46 = .ok (.ldiv, 1) := by decide +kernel
theorem dX1_codeOf_47 : decode cX1_codeOf 47 = .ok (.ladd, 1) := by decide +kernel
theorem dX1_codeOf_48 : decode cX1_codeOf 48 = .ok (.lreturn, 1) := by decide +kernel
theorem dX1_codeOf_49 : decode cX1_codeOf 49 = .ok (.lload_n 3, 1) := by decide +kernel
theorem dX1_codeOf_50 : decode cX1_codeOf 50 = .ok (.lneg, 1) := by decide +kernel
theorem dX1_codeOf_51 : decode cX1_codeOf 51 = .ok (.aload_n 0, 1) := by decide +kernel
theorem dX1_codeOf_52 : decode cX1_codeOf 52 = .ok (.getfield 18, 3) := by decide +kernel
theorem dX1_codeOf_55 : decode cX1_codeOf 55 = .ok (.lshl, 1) := by decide +kernel
theorem dX1_codeOf_56 : decode cX1_codeOf 56 = .ok (.lconst 1, 1) := by decide +kernel
theorem dX1_codeOf_57 : decode cX1_codeOf 57 = .ok (.lsub, 1) := by decide +kernel
theorem dX1_codeOf_58 : decode cX1_codeOf 58 = .ok (.lstore 5, 2) := by decide +kernel
theorem dX1_codeOf_60 : decode cX1_codeOf 60 = .ok (.aload_n 0, 1) := by decide +kernel
theorem dX1_codeOf_61 : decode cX1_codeOf 61 = .ok (.getfield 18, 3) := by decide +kernel
theorem dX1_codeOf_64 : decode cX1_codeOf 64 = .ok (.ifCond .eq 17, 3) := by decide +kernel
theorem dX1_codeOf_67 : decode cX1_codeOf 67 = .ok (.lload 5, 2) := by decide +kernel
theorem dX1_codeOf_69 : decode cX1_codeOf 69 = .ok (.ldc2_w 60, 3) := by decide +kernel
theorem dX1_codeOf_72 : decode cX1_codeOf 72 = .ok (.lcmp, 1) := by decide +kernel
theorem dX1_codeOf_73 : decode cX1_codeOf 73 = .ok (.ifCond .ge 8, 3) := by decide +kernel
theorem dX1_codeOf_76 : decode cX1_codeOf 76 = .ok (.lload 5, 2) := by decide +kernel
theorem dX1_codeOf_78 : decode cX1_codeOf 78 = .ok (.goto 6, 3) := by decide +kernel
theorem dX1_codeOf_81 : decode cX1_codeOf 81 = .ok (.ldc2_w 50, 3) := by decide +kernel
theorem dX1_codeOf_84 : decode cX1_codeOf 84 = .ok (.lreturn, 1) := by decide +kernel
theorem dX1_numberOf_0 : decode cX1_numberOf 0 = .ok (.lload_n 1, 1) := by decide +kernel
theorem dX1_numberOf_1 : decode cX1_numberOf 1 = .ok (.ldc2_w 60, 3) := by decide +kernel
theorem dX1_numberOf_4 : decode cX1_numberOf 4 = .ok (.lcmp, 1) := by decide +kernel
theorem dX1_numberOf_5 : decode cX1_numberOf 5 = .ok (.ifCond .lt 7, 3) := by decide +kernel
theorem dX1_numberOf_8 : decode cX1_numberOf 8 = .ok (.ldc2_w 60, 3) := by decide +kernel
theorem dX1_numberOf_11 : decode cX1_numberOf 11 = .ok (.lreturn, 1) := by decide +kernel
theorem dX1_numberOf_12 : decode cX1_numberOf 12 = .ok (.aload_n 0, 1) := by decide +kernel
theorem dX1_numberOf_13 : decode cX1_numberOf 13 = .ok (.getfield 18, 3) := by decide +kernel
theorem dX1_numberOf_16 : decode cX1_numberOf 16 = .ok (.ifCond .eq 23, 3) := by decide +kernel
theorem dX1_numberOf_19 : decode cX1_numberOf 19 = .ok (.lload_n 1, 1) := by decide +kernel
theorem dX1_numberOf_20 : decode cX1_numberOf 20 = .ok (.lconst 1, 1) := by decide +kernel
theorem dX1_numberOf_21 : decode cX1_numberOf 21 = .ok (.ladd, 1) := by decide +kernel
theorem dX1_numberOf_22 : decode cX1_numberOf 22 = .ok (.iconst 1, 1) := by decide +kernel
theorem dX1_numberOf_23 : decode cX1_numberOf 23 = .ok (.aload_n 0, 1) := by decide +kernel
theorem dX1_numberOf_24 : decode cX1_numberOf 24 = .ok (.getfield 18, 3) := by decide +kernel
theorem dX1_numberOf_27 : decode cX1_numberOf 27 = .ok (.ishl, 1) := by decide +kernel
theorem dX1_numberOf_28 : decode cX1_numberOf 28 = .ok (.i2l, 1) := by decide +kernel
theorem dX1_numberOf_29 : decode cX1_numberOf 29 = .ok (.lrem, 1) := by decide +kernel
theorem dX1_numberOf_30 : decode cX1_numberOf 30 = .ok (.lconst 0, 1) := by decide +kernel
theorem dX1_numberOf_31 : decode cX1_numberOf 31 = .ok (.lcmp, 1) := by decide +kernel
theorem dX1_numberOf_32 : decode cX1_numberOf 32 = .ok (.ifCond .ne 7, 3) := by decide +kernel
theorem dX1_numberOf_35 : decode cX1_numberOf 35 = .ok (.iconst 1, 1) := by decide +kernel
theorem dX1_numberOf_36 : decode cX1_numberOf 36 = .ok (.goto 4, 3) := by decide +kernel
theorem dX1_numberOf_39 : decode cX1_numberOf 39 = .ok (.iconst 0, 1) := by decide +kernel
theorem dX1_numberOf_40 : decode cX1_numberOf 40 = .ok (.istore_n 3, 1) := by decide +kernel
theorem dX1_numberOf_41 : decode cX1_numberOf 41 = .ok (.iload_n 3, 1) := by decide +kernel
theorem dX1_numberOf_42 : decode cX1_numberOf 42 = .ok (.ifCond .eq 13, 3) := by decide +kernel
theorem dX1_numberOf_45 : decode cX1_numberOf 45 = .ok (.lload_n 1, 1) := by decide +kernel
theorem dX1_numberOf_46 : decode cX1_numberOf 46 = .ok (.lconst 1, 1) := by decide +kernel
theorem dX1_numberOf_47 : decode cX1_numberOf 47 = .ok (.ladd, 1) := by decide +kernel
theorem dX1_numberOf_48 : decode cX1_numberOf 48 = .ok (.aload_n 0, 1) := by decide +kernel
theorem dX1_numberOf_49 : decode cX1_numberOf 49 = .ok (.getfield 18, 3) := by decide +kernel
theorem dX1_numberOf_52 : decode cX1_numberOf 52 = .ok (.lshr, 1) := by decide +kernel
theorem dX1_numberOf_53 : decode cX1_numberOf 53 = .ok (.lneg, 1) := by decide +kernel
theorem dX1_numberOf_54 : decode cX1_numberOf 54 = .ok (.lreturn, 1) := by decide +kernel
theorem dX1_numberOf_55 : decode cX1_numberOf 55 = .ok (.aload_n 0, 1) := by decide +kernel
theorem dX1_numberOf_56 : decode cX1_numberOf 56 = .ok (.getfield 18, 3) := by decide +kernel
theorem dX1_numberOf_59 : decode cX1_numberOf 59 = .ok (.ifCond .ne 7, 3) := by decide +kernel
theorem dX1_numberOf_62 : decode cX1_numberOf 62 = .ok (.lload_n 1, 1) := by decide +kernel
theorem dX1_numberOf_63 : decode cX1_numberOf 63 = .ok (.goto 11, 3) := by decide +kernel
theorem dX1_numberOf_66 : decode cX1_numberOf 66 = .ok (.lload_n 1, 1) := by decide +kernel
theorem dX1_numberOf_67 : decode cX1_numberOf 67 = .ok (.lload_n 1, 1) := by decide +kernel
theorem dX1_numberOf_68 : decode cX1_numberOf 68 = .ok (.aload_n 0, 1) := by decide +kernel
theorem dX1_numberOf_69 : decode cX1_numberOf 69 = .ok (.getfield 18, 3) := by decide +kernel
theorem dX1_numberOf_72 : decode cX1_numberOf 72 = .ok (.lshr, 1) := by decide +kernel
theorem dX1_numberOf_73 : decode cX1_numberOf 73 = .ok (.lsub, 1) := by decide +kernel
theorem dX1_numberOf_74 : decode cX1_numberOf 74 = .ok (.lstore 4, 2) := by decide +kernel
theorem dX1_numberOf_76 : decode cX1_numberOf 76 = .ok (.lload 4, 2) := by decide +kernel
theorem dX1_numberOf_78 : decode cX1_numberOf 78 = .ok (.ldc2_w 71, 3) := by decide +kernel
theorem dX1_numberOf_81 : decode cX1_numberOf 81 = .ok (.lcmp, 1) := by decide +kernel
theorem dX1_numberOf_82 : decode cX1_numberOf 82 = .ok (.ifCond .ge 8, 3) := by decide +kernel
theorem dX1_numberOf_85 : decode cX1_numberOf 85 = .ok (.lload 4, 2) := by decide +kernel
theorem dX1_numberOf_87 : decode cX1_numberOf 87 = .ok (.goto 6, 3) := by decide +kernel
theorem dX1_numberOf_90 : decode cX1_numberOf 90 = .ok (.ldc2_w 60, 3) := by decide +kernel
