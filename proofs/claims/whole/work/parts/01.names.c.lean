theorem dX0_init_0 : decode cX0_init 0 = .ok (.aload_n 0, 1) := by decide +kernel
theorem dX0_init_1 : decode cX0_init 1 = .ok (.invokespecial 3, 3) := by decide +kernel
theorem dX0_init_4 : decode cX0_init 4 = .ok (.aload_n 0, 1) := by decide +kernel
theorem dX0_init_5 : decode cX0_init 5 = .ok (.sipush 512, 3) := by decide +kernel
theorem dX0_init_8 : decode cX0_init 8 = .ok (.newarray .int, 2) := by decide +kernel
theorem dX0_init_10 : decode cX0_init 10 = .ok (.putfield 11, 3) := by decide +kernel
theorem dX0_init_13 : decode cX0_init 13 = .ok (.aload_n 0, 1) := by decide +kernel
theorem dX0_init_14 : decode cX0_init 14 = .ok (.iconst 1, 1) := by decide +kernel
theorem dX0_init_15 : decode cX0_init 15 = .ok (.putfield 15, 3) := by decide +kernel
theorem dX0_init_18 : decode cX0_init 18 = .ok (.aload_n 0, 1) := by decide +kernel
theorem dX0_init_19 : decode cX0_init 19 = .ok (.sipush 400, 3) := by decide +kernel
theorem dX0_init_22 : decode cX0_init 22 = .ok (.newarray .int, 2) := by decide +kernel
theorem dX0_init_24 : decode cX0_init 24 = .ok (.putfield 19, 3) := by decide +kernel
theorem dX0_init_27 : decode cX0_init 27 = .ok (.aload_n 0, 1) := by decide +kernel
theorem dX0_init_28 : decode cX0_init 28 = .ok (.sipush 400, 3) := by decide +kernel
theorem dX0_init_31 : decode cX0_init 31 = .ok (.newarray .int, 2) := by decide +kernel
theorem dX0_init_33 : decode cX0_init 33 = .ok (.putfield 22, 3) := by decide +kernel
theorem dX0_init_36 : decode cX0_init 36 = .ok (.aload_n 0, 1) := by decide +kernel
theorem dX0_init_37 : decode cX0_init 37 = .ok (.iconst 0, 1) := by decide +kernel
theorem dX0_init_38 : decode cX0_init 38 = .ok (.putfield 25, 3) := by decide +kernel
theorem dX0_init_41 : decode cX0_init 41 = .ok (.return_, 1) := by decide +kernel
theorem dX0_take_0 : decode cX0_take 0 = .ok (.aload_n 0, 1) := by decide +kernel
theorem dX0_take_1 : decode cX0_take 1 = .ok (.iload_n 3, 1) := by decide +kernel
theorem dX0_take_2 : decode cX0_take 2 = .ok (.invokevirtual 28, 3) := by decide +kernel
theorem dX0_take_5 : decode cX0_take 5 = .ok (.iconst 0, 1) := by decide +kernel
theorem dX0_take_6 : decode cX0_take 6 = .ok (.istore 6, 2) := by decide +kernel
theorem dX0_take_8 : decode cX0_take 8 = .ok (.iload 6, 2) := by decide +kernel
theorem dX0_take_10 : decode cX0_take 10 = .ok (.iload_n 3, 1) := by decide +kernel
theorem dX0_take_11 : decode cX0_take 11 = .ok (.if_icmp .ge 42, 3) := by decide +kernel
theorem dX0_take_14 : decode cX0_take 14 = .ok (.aload_n 0, 1) := by decide +kernel
theorem dX0_take_15 : decode cX0_take 15 = .ok (.aload_n 1, 1) := by decide +kernel
theorem dX0_take_16 : decode cX0_take 16 = .ok (.iload_n 2, 1) := by decide +kernel
theorem dX0_take_17 : decode cX0_take 17 = .ok (.iload 6, 2) := by decide +kernel
theorem dX0_take_19 : decode cX0_take 19 = .ok (.iadd, 1) := by decide +kernel
theorem dX0_take_20 : decode cX0_take 20 = .ok (.iaload, 1) := by decide +kernel
theorem dX0_take_21 : decode cX0_take 21 = .ok (.invokevirtual 32, 3) := by decide +kernel
theorem dX0_take_24 : decode cX0_take 24 = .ok (.istore 7, 2) := by decide +kernel
theorem dX0_take_26 : decode cX0_take 26 = .ok (.aload_n 0, 1) := by decide +kernel
theorem dX0_take_27 : decode cX0_take 27 = .ok (.getfield 22, 3) := by decide +kernel
theorem dX0_take_30 : decode cX0_take 30 = .ok (.iload 7, 2) := by decide +kernel
theorem dX0_take_32 : decode cX0_take 32 = .ok (.dup2, 1) := by decide +kernel
theorem dX0_take_33 : decode cX0_take 33 = .ok (.iaload, 1) := by decide +kernel
theorem dX0_take_34 : decode cX0_take 34 = .ok (.iconst 1, 1) := by decide +kernel
theorem dX0_take_35 : decode cX0_take 35 = .ok (.iadd, 1) := by decide +kernel
theorem dX0_take_36 : decode cX0_take 36 = .ok (.iastore, 1) := by decide +kernel
theorem dX0_take_37 : decode cX0_take 37 = .ok (.aload 5, 2) := by decide +kernel
theorem dX0_take_39 : decode cX0_take 39 = .ok (.getfield 36, 3) := by decide +kernel
theorem dX0_take_42 : decode cX0_take 42 = .ok (.iload 6, 2) := by decide +kernel
theorem dX0_take_44 : decode cX0_take 44 = .ok (.iload 7, 2) := by decide +kernel
theorem dX0_take_46 : decode cX0_take 46 = .ok (.iastore, 1) := by decide +kernel
theorem dX0_take_47 : decode cX0_take 47 = .ok (.iinc 6 1, 3) := by decide +kernel
theorem dX0_take_50 : decode cX0_take 50 = .ok (.goto (-42), 3) := by decide +kernel
theorem dX0_take_53 : decode cX0_take 53 = .ok (.aload_n 0, 1) := by decide +kernel
theorem dX0_take_54 : decode cX0_take 54 = .ok (.iload 4, 2) := by decide +kernel
theorem dX0_take_56 : decode cX0_take 56 = .ok (.aload 5, 2) := by decide +kernel
theorem dX0_take_58 : decode cX0_take 58 = .ok (.getfield 41, 3) := by decide +kernel
theorem dX0_take_61 : decode cX0_take 61 = .ok (.invokevirtual 44, 3) := by decide +kernel
theorem dX0_take_64 : decode cX0_take 64 = .ok (.iconst 0, 1) := by decide +kernel
theorem dX0_take_65 : decode cX0_take 65 = .ok (.istore 6, 2) := by decide +kernel
theorem dX0_take_67 : decode cX0_take 67 = .ok (.iload 6, 2) := by decide +kernel
theorem dX0_take_69 : decode cX0_take 69 = .ok (.iload_n 3, 1) := by decide +kernel
theorem dX0_take_70 : decode cX0_take 70 = .ok (.if_icmp .ge 35, 3) := by decide +kernel
theorem dX0_take_73 : decode cX0_take 73 = .ok (.aload 5, 2) := by decide +kernel
theorem dX0_take_75 : decode cX0_take 75 = .ok (.getfield 36, 3) := by decide +kernel
theorem dX0_take_78 : decode cX0_take 78 = .ok (.iload 6, 2) := by decide +kernel
theorem dX0_take_80 : decode cX0_take 80 = .ok (.iconst 0, 1) := by decide +kernel
theorem dX0_take_81 : decode cX0_take 81 = .ok (.aload_n 0, 1) := by decide +kernel
theorem dX0_take_82 : decode cX0_take 82 = .ok (.getfield 22, 3) := by decide +kernel
theorem dX0_take_85 : decode cX0_take 85 = .ok (.aload 5, 2) := by decide +kernel
theorem dX0_take_87 : decode cX0_take 87 = .ok (.getfield 36, 3) := by decide +kernel
theorem dX0_take_90 : decode cX0_take 90 = .ok (.iload 6, 2) := by decide +kernel
theorem dX0_take_92 : decode cX0_take 92 = .ok (.iaload, 1) := by decide +kernel
theorem dX0_take_93 : decode cX0_take 93 = .ok (.iaload, 1) := by decide +kernel
theorem dX0_take_94 : decode cX0_take 94 = .ok (.ineg, 1) := by decide +kernel
theorem dX0_take_95 : decode cX0_take 95 = .ok (.invokestatic 48, 3) := by decide +kernel
theorem dX0_take_98 : decode cX0_take 98 = .ok (.iastore, 1) := by decide +kernel
theorem dX0_take_99 : decode cX0_take 99 = .ok (.iinc 6 1, 3) := by decide +kernel
theorem dX0_take_102 : decode cX0_take 102 = .ok (.goto (-35), 3) := by decide +kernel
theorem dX0_take_105 : decode cX0_take 105 = .ok (.return_, 1) := by decide +kernel
theorem dX0_empty_0 : decode cX0_empty 0 = .ok (.aload_n 0, 1) := by decide +kernel
theorem dX0_empty_1 : decode cX0_empty 1 = .ok (.iconst 1, 1) := by decide +kernel
theorem dX0_empty_2 : decode cX0_empty 2 = .ok (.putfield 15, 3) := by decide +kernel
theorem dX0_empty_5 : decode cX0_empty 5 = .ok (.aload_n 0, 1) := by decide +kernel
theorem dX0_empty_6 : decode cX0_empty 6 = .ok (.getfield 15, 3) := by decide +kernel
theorem dX0_empty_9 : decode cX0_empty 9 = .ok (.bipush 9, 2) := by decide +kernel
theorem dX0_empty_11 : decode cX0_empty 11 = .ok (.if_icmp .ge 28, 3) := by decide +kernel
theorem dX0_empty_14 : decode cX0_empty 14 = .ok (.iconst 1, 1) := by decide +kernel
theorem dX0_empty_15 : decode cX0_empty 15 = .ok (.aload_n 0, 1) := by decide +kernel
theorem dX0_empty_16 : decode cX0_empty 16 = .ok (.getfield 15, 3) := by decide +kernel
theorem dX0_empty_19 : decode cX0_empty 19 = .ok (.ishl, 1) := by decide +kernel
theorem dX0_empty_20 : decode cX0_empty 20 = .ok (.iconst 2, 1) := by decide +kernel
theorem dX0_empty_21 : decode cX0_empty 21 = .ok (.iload_n 1, 1) := by decide +kernel
theorem dX0_empty_22 : decode cX0_empty 22 = .ok (.imul, 1) := by decide +kernel
theorem dX0_empty_23 : decode cX0_empty 23 = .ok (.if_icmp .ge 16, 3) := by decide +kernel
theorem dX0_empty_26 : decode cX0_empty 26 = .ok (.aload_n 0, 1) := by decide +kernel
theorem dX0_empty_27 : decode cX0_empty 27 = .ok (.dup, 1) := by decide +kernel
theorem dX0_empty_28 : decode cX0_empty 28 = .ok (.getfield 15, 3) := by decide +kernel
theorem dX0_empty_31 : decode cX0_empty 31 = .ok (.iconst 1, 1) := by decide +kernel
theorem dX0_empty_32 : decode cX0_empty 32 = .ok (.iadd, 1) := by decide +kernel
theorem dX0_empty_33 : decode cX0_empty 33 = .ok (.putfield 15, 3) := by decide +kernel
theorem dX0_empty_36 : decode cX0_empty 36 = .ok (.goto (-31), 3) := by decide +kernel
theorem dX0_empty_39 : decode cX0_empty 39 = .ok (.iconst 0, 1) := by decide +kernel
theorem dX0_empty_40 : decode cX0_empty 40 = .ok (.istore_n 2, 1) := by decide +kernel
theorem dX0_empty_41 : decode cX0_empty 41 = .ok (.iload_n 2, 1) := by decide +kernel
theorem dX0_empty_42 : decode cX0_empty 42 = .ok (.iconst 1, 1) := by decide +kernel
theorem dX0_empty_43 : decode cX0_empty 43 = .ok (.aload_n 0, 1) := by decide +kernel
theorem dX0_empty_44 : decode cX0_empty 44 = .ok (.getfield 15, 3) := by decide +kernel
theorem dX0_empty_47 : decode cX0_empty 47 = .ok (.ishl, 1) := by decide +kernel
theorem dX0_empty_48 : decode cX0_empty 48 = .ok (.if_icmp .ge 16, 3) := by decide +kernel
theorem dX0_empty_51 : decode cX0_empty 51 = .ok (.aload_n 0, 1) := by decide +kernel
theorem dX0_empty_52 : decode cX0_empty 52 = .ok (.getfield 11, 3) := by decide +kernel
theorem dX0_empty_55 : decode cX0_empty 55 = .ok (.iload_n 2, 1) := by decide +kernel
theorem dX0_empty_56 : decode cX0_empty 56 = .ok (.iconst 0, 1) := by decide +kernel
theorem dX0_empty_57 : decode cX0_empty 57 = .ok (.iastore, 1) := by decide +kernel
theorem dX0_empty_58 : decode cX0_empty 58 = .ok (.iinc 2 1, 3) := by decide +kernel
theorem dX0_empty_61 : decode cX0_empty 61 = .ok (.goto (-20), 3) := by decide +kernel
theorem dX0_empty_64 : decode cX0_empty 64 = .ok (.aload_n 0, 1) := by decide +kernel
theorem dX0_empty_65 : decode cX0_empty 65 = .ok (.iconst 0, 1) := by decide +kernel
theorem dX0_empty_66 : decode cX0_empty 66 = .ok (.putfield 25, 3) := by decide +kernel
theorem dX0_empty_69 : decode cX0_empty 69 = .ok (.return_, 1) := by decide +kernel
theorem dX0_kindOf_0 : decode cX0_kindOf 0 = .ok (.iconst 1, 1) := by decide +kernel
theorem dX0_kindOf_1 : decode cX0_kindOf 1 = .ok (.aload_n 0, 1) := by decide +kernel
theorem dX0_kindOf_2 : decode cX0_kindOf 2 = .ok (.getfield 15, 3) := by decide +kernel
theorem dX0_kindOf_5 : decode cX0_kindOf 5 = .ok (.ishl, 1) := by decide +kernel
theorem dX0_kindOf_6 : decode cX0_kindOf 6 = .ok (.istore_n 2, 1) := by decide +kernel
theorem dX0_kindOf_7 : decode cX0_kindOf 7 = .ok (.iload_n 1, 1) := by decide +kernel
theorem dX0_kindOf_8 : decode cX0_kindOf 8 = .ok (.ldc 54, 2) := by decide +kernel
theorem dX0_kindOf_10 : decode cX0_kindOf 10 = .ok (.imul, 1) := by decide +kernel
theorem dX0_kindOf_11 : decode cX0_kindOf 11 = .ok (.bipush 32, 2) := by decide +kernel
theorem dX0_kindOf_13 : decode cX0_kindOf 13 = .ok (.aload_n 0, 1) := by decide +kernel
theorem dX0_kindOf_14 : decode cX0_kindOf 14 = .ok (.getfield 15, 3) := by decide +kernel
theorem dX0_kindOf_17 : decode cX0_kindOf 17 = .ok (.isub, 1) := by decide +kernel
theorem dX0_kindOf_18 : decode cX0_kindOf 18 = .ok (.iushr, 1) := by decide +kernel
theorem dX0_kindOf_19 : decode cX0_kindOf 19 = .ok (.istore_n 3, 1) := by decide +kernel
theorem dX0_kindOf_20 : decode cX0_kindOf 20 = .ok (.iconst 0, 1) := by decide +kernel
theorem dX0_kindOf_21 : decode cX0_kindOf 21 = .ok (.istore 4, 2) := by decide +kernel
theorem dX0_kindOf_23 : decode cX0_kindOf 23 = .ok (.iload 4, 2) := by decide +kernel
theorem dX0_kindOf_25 : decode cX0_kindOf 25 = .ok (.iload_n 2, 1) := by decide +kernel
theorem dX0_kindOf_26 : decode cX0_kindOf 26 = .ok (.if_icmp .ge 41, 3) := by decide +kernel
theorem dX0_kindOf_29 : decode cX0_kindOf 29 = .ok (.aload_n 0, 1) := by decide +kernel
theorem dX0_kindOf_30 : decode cX0_kindOf 30 = .ok (.getfield 11, 3) := by decide +kernel
theorem dX0_kindOf_33 : decode cX0_kindOf 33 = .ok (.iload_n 3, 1) := by decide +kernel
theorem dX0_kindOf_34 : decode cX0_kindOf 34 = .ok (.iaload, 1) := by decide +kernel
theorem dX0_kindOf_35 : decode cX0_kindOf 35 = .ok (.ifCond .eq 32, 3) := by decide +kernel
theorem dX0_kindOf_38 : decode cX0_kindOf 38 = .ok (.aload_n 0, 1) := by decide +kernel
theorem dX0_kindOf_39 : decode cX0_kindOf 39 = .ok (.getfield 19, 3) := by decide +kernel
theorem dX0_kindOf_42 : decode cX0_kindOf 42 = .ok (.aload_n 0, 1) := by decide +kernel
theorem dX0_kindOf_43 : decode cX0_kindOf 43 = .ok (.getfield 11, 3) := by decide +kernel
theorem dX0_kindOf_46 : decode cX0_kindOf 46 = .ok (.iload_n 3, 1) := by decide +kernel
theorem dX0_kindOf_47 : decode cX0_kindOf 47 = .ok (.iaload, 1) := by decide +kernel
theorem dX0_kindOf_48 : decode cX0_kindOf 48 = .ok (.iconst 1, 1) := by decide +kernel
theorem dX0_kindOf_49 : decode cX0_kindOf 49 = .ok (.isub, 1) := by decide +kernel
theorem dX0_kindOf_50 : decode cX0_kindOf 50 = .ok (.iaload, 1) := by decide +kernel
theorem dX0_kindOf_51 : decode cX0_kindOf 51 = .ok (.iload_n 1, 1) := by decide +kernel
theorem dX0_kindOf_52 : decode cX0_kindOf 52 = .ok (.if_icmp .eq 15, 3) := by decide +kernel
theorem dX0_kindOf_55 : decode cX0_kindOf 55 = .ok (.iload_n 3, 1) := by decide +kernel
theorem dX0_kindOf_56 : decode cX0_kindOf 56 = .ok (.iconst 1, 1) := by decide +kernel
theorem dX0_kindOf_57 : decode cX0_kindOf 57 = .ok (.iadd, 1) := by decide +kernel
theorem dX0_kindOf_58 : decode cX0_kindOf 58 = .ok (.iload_n 2, 1) := by decide +kernel
theorem dX0_kindOf_59 : decode cX0_kindOf 59 = .ok (.irem, 1) := by decide +kernel
theorem dX0_kindOf_60 : decode cX0_kindOf 60 = .ok (.istore_n 3, 1) := by decide +kernel
theorem dX0_kindOf_61 : decode cX0_kindOf 61 = .ok (.iinc 4 1, 3) := by decide +kernel
theorem dX0_kindOf_64 : decode cX0_kindOf 64 = .ok (.goto (-41), 3) := by decide +kernel
theorem dX0_kindOf_67 : decode cX0_kindOf 67 = .ok (.aload_n 0, 1) := by decide +kernel
theorem dX0_kindOf_68 : decode cX0_kindOf 68 = .ok (.getfield 11, 3) := by decide +kernel
theorem dX0_kindOf_71 : decode cX0_kindOf 71 = .ok (.iload_n 3, 1) := by decide +kernel
theorem dX0_kindOf_72 : decode cX0_kindOf 72 = .ok (.iaload, 1) := by decide +kernel
theorem dX0_kindOf_73 : decode cX0_kindOf 73 = .ok (.ifCond .ne 43, 3) := by decide +kernel
theorem dX0_kindOf_76 : decode cX0_kindOf 76 = .ok (.aload_n 0, 1) := by decide +kernel
theorem dX0_kindOf_77 : decode cX0_kindOf 77 = .ok (.getfield 19, 3) := by decide +kernel
theorem dX0_kindOf_80 : decode cX0_kindOf 80 = .ok (.aload_n 0, 1) := by decide +kernel
theorem dX0_kindOf_81 : decode cX0_kindOf 81 = .ok (.getfield 25, 3) := by decide +kernel
theorem dX0_kindOf_84 : decode cX0_kindOf 84 = .ok (.iload_n 1, 1) := by decide +kernel
theorem dX0_kindOf_85 : decode cX0_kindOf 85 = .ok (.iastore, 1) := by decide +kernel
theorem dX0_kindOf_86 : decode cX0_kindOf 86 = .ok (.aload_n 0, 1) := by decide +kernel
theorem dX0_kindOf_87 : decode cX0_kindOf 87 = .ok (.getfield 22, 3) := by decide +kernel
theorem dX0_kindOf_90 : decode cX0_kindOf 90 = .ok (.aload_n 0, 1) := by decide +kernel
theorem dX0_kindOf_91 : decode cX0_kindOf 91 = .ok (.getfield 25, 3) := by decide +kernel
theorem dX0_kindOf_94 : decode cX0_kindOf 94 = .ok (.iconst 0, 1) := by decide +kernel
theorem dX0_kindOf_95 : decode cX0_kindOf 95 = .ok (.iastore, 1) := by decide +kernel
theorem dX0_kindOf_96 : decode cX0_kindOf 96 = .ok (.aload_n 0, 1) := by decide +kernel
theorem dX0_kindOf_97 : decode cX0_kindOf 97 = .ok (.dup, 1) := by decide +kernel
theorem dX0_kindOf_98 : decode cX0_kindOf 98 = .ok (.getfield 25, 3) := by decide +kernel
theorem dX0_kindOf_101 : decode cX0_kindOf 101 = .ok (.iconst 1, 1) := by decide +kernel
theorem dX0_kindOf_102 : decode cX0_kindOf 102 = .ok (.iadd, 1) := by decide +kernel
theorem dX0_kindOf_103 : decode cX0_kindOf 103 = .ok (.putfield 25, 3) := by decide +kernel
theorem dX0_kindOf_106 : decode cX0_kindOf 106 = .ok (.aload_n 0, 1) := by decide +kernel
theorem dX0_kindOf_107 : decode cX0_kindOf 107 = .ok (.getfield 11, 3) := by decide +kernel
theorem dX0_kindOf_110 : decode cX0_kindOf 110 = .ok (.iload_n 3, 1) := by decide +kernel
theorem dX0_kindOf_111 : decode cX0_kindOf 111 = .ok (.aload_n 0, 1) := by decide +kernel
theorem dX0_kindOf_112 : decode cX0_kindOf 112 = .ok (.getfield 25, 3) := by decide +kernel
theorem dX0_kindOf_115 : decode cX0_kindOf 115 = .ok (.iastore, 1) := by decide +kernel
theorem dX0_kindOf_116 : decode cX0_kindOf 116 = .ok (.aload_n 0, 1) := by decide +kernel
theorem dX0_kindOf_117 : decode cX0_kindOf 117 = .ok (.getfield 11, 3) := by decide +kernel
theorem dX0_kindOf_120 : decode cX0_kindOf 120 = .ok (.iload_n 3, 1) := by decide +kernel
theorem dX0_kindOf_121 : decode cX0_kindOf 121 = .ok (.iaload, 1) := by decide +kernel
theorem dX0_kindOf_122 : decode cX0_kindOf 122 = .ok (.iconst 1, 1) := by decide +kernel
theorem dX0_kindOf_123 : decode cX0_kindOf 123 = .ok (.isub, 1) := by decide +kernel
theorem dX0_kindOf_124 : decode cX0_kindOf 124 = .ok (.ireturn, 1) := by decide +kernel
theorem dX0_chooseFavourites_0 : decode cX0_chooseFavourites 0 = .ok (.iconst 0, 1) := by decide +kernel
theorem dX0_chooseFavourites_1 : decode cX0_chooseFavourites 1 = .ok (.istore_n 3, 1) := by decide +kernel
theorem dX0_chooseFavourites_2 : decode cX0_chooseFavourites 2 = .ok (.aload_n 0, 1) := by decide +kernel
theorem dX0_chooseFavourites_3 : decode cX0_chooseFavourites 3 = .ok (.invokevirtual 55, 3) := by decide +kernel
theorem dX0_chooseFavourites_6 : decode cX0_chooseFavourites 6 = .ok (.istore 4, 2) := by decide +kernel
theorem dX0_chooseFavourites_8 : decode cX0_chooseFavourites 8 = .ok (.iload_n 3, 1) := by decide +kernel
theorem dX0_chooseFavourites_9 : decode cX0_chooseFavourites 9 = .ok (.iload_n 1, 1) := by decide +kernel
theorem dX0_chooseFavourites_10 : decode cX0_chooseFavourites 10 = .ok (.if_icmp .ge 40, 3) := by decide +kernel
theorem dX0_chooseFavourites_13 : decode cX0_chooseFavourites 13 = .ok (.iload 4, 2) := by decide +kernel
theorem dX0_chooseFavourites_15 : decode cX0_chooseFavourites 15 = .ok (.iconst (-1), 1) := by decide +kernel
theorem dX0_chooseFavourites_16 : decode cX0_chooseFavourites 16 = .ok (.if_icmp .eq 34, 3) := by decide +kernel
theorem dX0_chooseFavourites_19 : decode cX0_chooseFavourites 19 = .ok (.iinc 3 1, 3) := by decide +kernel
theorem dX0_chooseFavourites_22 : decode cX0_chooseFavourites 22 = .ok (.aload_n 2, 1) := by decide +kernel
theorem dX0_chooseFavourites_23 : decode cX0_chooseFavourites 23 = .ok (.iload_n 3, 1) := by decide +kernel
theorem dX0_chooseFavourites_24 : decode cX0_chooseFavourites 24 = .ok (.aload_n 0, 1) := by decide +kernel
theorem dX0_chooseFavourites_25 : decode cX0_chooseFavourites 25 = .ok (.getfield 19, 3) := by decide +kernel
theorem dX0_chooseFavourites_28 : decode cX0_chooseFavourites 28 = .ok (.iload 4, 2) := by decide +kernel
theorem dX0_chooseFavourites_30 : decode cX0_chooseFavourites 30 = .ok (.iaload, 1) := by decide +kernel
theorem dX0_chooseFavourites_31 : decode cX0_chooseFavourites 31 = .ok (.iastore, 1) := by decide +kernel
theorem dX0_chooseFavourites_32 : decode cX0_chooseFavourites 32 = .ok (.aload_n 0, 1) := by decide +kernel
theorem dX0_chooseFavourites_33 : decode cX0_chooseFavourites 33 = .ok (.getfield 22, 3) := by decide +kernel
theorem dX0_chooseFavourites_36 : decode cX0_chooseFavourites 36 = .ok (.iload 4, 2) := by decide +kernel
theorem dX0_chooseFavourites_38 : decode cX0_chooseFavourites 38 = .ok (.iload_n 3, 1) := by decide +kernel
theorem dX0_chooseFavourites_39 : decode cX0_chooseFavourites 39 = .ok (.ineg, 1) := by decide +kernel
theorem dX0_chooseFavourites_40 : decode cX0_chooseFavourites 40 = .ok (.iastore, 1) := by decide +kernel
theorem dX0_chooseFavourites_41 : decode cX0_chooseFavourites 41 = .ok (.aload_n 0, 1) := by decide +kernel
theorem dX0_chooseFavourites_42 : decode cX0_chooseFavourites 42 = .ok (.invokevirtual 55, 3) := by decide +kernel
theorem dX0_chooseFavourites_45 : decode cX0_chooseFavourites 45 = .ok (.istore 4, 2) := by decide +kernel
theorem dX0_chooseFavourites_47 : decode cX0_chooseFavourites 47 = .ok (.goto (-39), 3) := by decide +kernel
theorem dX0_chooseFavourites_50 : decode cX0_chooseFavourites 50 = .ok (.aload_n 2, 1) := by decide +kernel
theorem dX0_chooseFavourites_51 : decode cX0_chooseFavourites 51 = .ok (.iconst 0, 1) := by decide +kernel
theorem dX0_chooseFavourites_52 : decode cX0_chooseFavourites 52 = .ok (.iload_n 3, 1) := by decide +kernel
theorem dX0_chooseFavourites_53 : decode cX0_chooseFavourites 53 = .ok (.iastore, 1) := by decide +kernel
theorem dX0_chooseFavourites_54 : decode cX0_chooseFavourites 54 = .ok (.return_, 1) := by decide +kernel
theorem dX0_mostFrequent_0 : decode cX0_mostFrequent 0 = .ok (.iconst (-1), 1) := by decide +kernel
theorem dX0_mostFrequent_1 : decode cX0_mostFrequent 1 = .ok (.istore_n 1, 1) := by decide +kernel
theorem dX0_mostFrequent_2 : decode cX0_mostFrequent 2 = .ok (.iconst 1, 1) := by decide +kernel
theorem dX0_mostFrequent_3 : decode cX0_mostFrequent 3 = .ok (.istore_n 2, 1) := by decide +kernel
theorem dX0_mostFrequent_4 : decode cX0_mostFrequent 4 = .ok (.iconst 0, 1) := by decide +kernel
theorem dX0_mostFrequent_5 : decode cX0_mostFrequent 5 = .ok (.istore_n 3, 1) := by decide +kernel
theorem dX0_mostFrequent_6 : decode cX0_mostFrequent 6 = .ok (.iload_n 3, 1) := by decide +kernel
theorem dX0_mostFrequent_7 : decode cX0_mostFrequent 7 = .ok (.aload_n 0, 1) := by decide +kernel
theorem dX0_mostFrequent_8 : decode cX0_mostFrequent 8 = .ok (.getfield 25, 3) := by decide +kernel
theorem dX0_mostFrequent_11 : decode cX0_mostFrequent 11 = .ok (.if_icmp .ge 28, 3) := by decide +kernel
theorem dX0_mostFrequent_14 : decode cX0_mostFrequent 14 = .ok (.aload_n 0, 1) := by decide +kernel
theorem dX0_mostFrequent_15 : decode cX0_mostFrequent 15 = .ok (.getfield 22, 3) := by decide +kernel
theorem dX0_mostFrequent_18 : decode cX0_mostFrequent 18 = .ok (.iload_n 3, 1) := by decide +kernel
theorem dX0_mostFrequent_19 : decode cX0_mostFrequent 19 = .ok (.iaload, 1) := by decide +kernel
theorem dX0_mostFrequent_20 : decode cX0_mostFrequent 20 = .ok (.iload_n 2, 1) := by decide +kernel
theorem dX0_mostFrequent_21 : decode cX0_mostFrequent 21 = .ok (.if_icmp .le 12, 3) := by decide +kernel
theorem dX0_mostFrequent_24 : decode cX0_mostFrequent 24 = .ok (.iload_n 3, 1) := by decide +kernel
theorem dX0_mostFrequent_25 : decode cX0_mostFrequent 25 = .ok (.istore_n 1, 1) := by decide +kernel
theorem dX0_mostFrequent_26 : decode cX0_mostFrequent 26 = .ok (.aload_n 0, 1) := by decide +kernel
theorem dX0_mostFrequent_27 : decode cX0_mostFrequent 27 = .ok (.getfield 22, 3) := by decide +kernel
theorem dX0_mostFrequent_30 : decode cX0_mostFrequent 30 = .ok (.iload_n 3, 1) := by decide +kernel
theorem dX0_mostFrequent_31 : decode cX0_mostFrequent 31 = .ok (.iaload, 1) := by decide +kernel
theorem dX0_mostFrequent_32 : decode cX0_mostFrequent 32 = .ok (.istore_n 2, 1) := by decide +kernel
theorem dX0_mostFrequent_33 : decode cX0_mostFrequent 33 = .ok (.iinc 3 1, 3) := by decide +kernel
theorem dX0_mostFrequent_36 : decode cX0_mostFrequent 36 = .ok (.goto (-30), 3) := by decide +kernel
theorem dX0_mostFrequent_39 : decode cX0_mostFrequent 39 = .ok (.iload_n 1, 1) := by decide +kernel
theorem dX0_mostFrequent_40 : decode cX0_mostFrequent 40 = .ok (.ireturn, 1) := by decide +kernel
theorem dX1_init_0 : decode cX1_init 0 = .ok (.aload_n 0, 1) := by decide +kernel
theorem dX1_init_1 : decode cX1_init 1 = .ok (.iconst 0, 1) := by decide +kernel
theorem dX1_init_2 : decode cX1_init 2 = .ok (.invokespecial 3, 3) := by decide +kernel
theorem dX1_init_5 : decode cX1_init 5 = .ok (.aload_n 0, 1) := by decide +kernel
theorem dX1_init_6 : decode cX1_init 6 = .ok (.iload_n 1, 1) := by decide +kernel
theorem dX1_init_7 : decode cX1_init 7 = .ok (.putfield 9, 3) := by decide +kernel
theorem dX1_init_10 : decode cX1_init 10 = .ok (.aload_n 0, 1) := by decide +kernel
theorem dX1_init_11 : decode cX1_init 11 = .ok (.iload_n 2, 1) := by decide +kernel
theorem dX1_init_12 : decode cX1_init 12 = .ok (.putfield 15, 3) := by decide +kernel
theorem dX1_init_15 : decode cX1_init 15 = .ok (.aload_n 0, 1) := by decide +kernel
theorem dX1_init_16 : decode cX1_init 16 = .ok (.iload_n 3, 1) := by decide +kernel
theorem dX1_init_17 : decode cX1_init 17 = .ok (.putfield 18, 3) := by decide +kernel
theorem dX1_init_20 : decode cX1_init 20 = .ok (.aload_n 0, 1) := by decide +kernel
theorem dX1_init_21 : decode cX1_init 21 = .ok (.iload 4, 2) := by decide +kernel
theorem dX1_init_23 : decode cX1_init 23 = .ok (.putfield 21, 3) := by decide +kernel
theorem dX1_init_26 : decode cX1_init 26 = .ok (.aload_n 0, 1) := by decide +kernel
theorem dX1_init_27 : decode cX1_init 27 = .ok (.sipush 256, 3) := by decide +kernel
theorem dX1_init_30 : decode cX1_init 30 = .ok (.iload_n 2, 1) := by decide +kernel
theorem dX1_init_31 : decode cX1_init 31 = .ok (.isub, 1) := by decide +kernel
theorem dX1_init_32 : decode cX1_init 32 = .ok (.putfield 24, 3) := by decide +kernel
theorem dX1_init_35 : decode cX1_init 35 = .ok (.return_, 1) := by decide +kernel
theorem dX1_trait_0 : decode cX1_trait 0 = .ok (.iload_n 1, 1) := by decide +kernel
theorem dX1_trait_1 : decode cX1_trait 1 = .ok (.tableswitch 51 0 3 #[31, 36, 41, 46], 31) := by decide +kernel
theorem dX1_trait_32 : decode cX1_trait 32 = .ok (.aload_n 0, 1) := by decide +kernel
theorem dX1_trait_33 : decode cX1_trait 33 = .ok (.getfield 9, 3) := by decide +kernel
theorem dX1_trait_36 : decode cX1_trait 36 = .ok (.ireturn, 1) := by decide +kernel
theorem dX1_trait_37 : decode cX1_trait 37 = .ok (.aload_n 0, 1) := by decide +kernel
theorem dX1_trait_38 : decode cX1_trait 38 = .ok (.getfield 15, 3) := by decide +kernel
theorem dX1_trait_41 : decode cX1_trait 41 = .ok (.ireturn, 1) := by decide +kernel
theorem dX1_trait_42 : decode cX1_trait 42 = .ok (.aload_n 0, 1) := by decide +kernel
theorem dX1_trait_43 : decode cX1_trait 43 = .ok (.getfield 18, 3) := by decide +kernel
theorem dX1_trait_46 : decode cX1_trait 46 = .ok (.ireturn, 1) := by decide +kernel
theorem dX1_trait_47 : decode cX1_trait 47 = .ok (.aload_n 0, 1) := by decide +kernel
theorem dX1_trait_48 : decode cX1_trait 48 = .ok (.getfield 21, 3) := by decide +kernel
theorem dX1_trait_51 : decode cX1_trait 51 = .ok (.ireturn, 1) := by decide +kernel
theorem dX1_trait_52 : decode cX1_trait 52 = .ok (.iconst (-1), 1) := by decide +kernel
theorem dX1_trait_53 : decode cX1_trait 53 = .ok (.ireturn, 1) := by decide +kernel
theorem dX1_write_0 : decode cX1_write 0 = .ok (.iconst 0, 1) := by decide +kernel
theorem dX1_write_1 : decode cX1_write 1 = .ok (.istore 5, 2) := by decide +kernel
theorem dX1_write_3 : decode cX1_write 3 = .ok (.iload_n 3, 1) := by decide +kernel
theorem dX1_write_4 : decode cX1_write 4 = .ok (.istore 6, 2) := by decide +kernel
theorem dX1_write_6 : decode cX1_write 6 = .ok (.iload 6, 2) := by decide +kernel
theorem dX1_write_8 : decode cX1_write 8 = .ok (.iload_n 3, 1) := by decide +kernel
theorem dX1_write_9 : decode cX1_write 9 = .ok (.iload 4, 2) := by decide +kernel
theorem dX1_write_11 : decode cX1_write 11 = .ok (.iadd, 1) := by decide +kernel
theorem dX1_write_12 : decode cX1_write 12 = .ok (.if_icmp .ge 38, 3) := by decide +kernel
theorem dX1_write_15 : decode cX1_write 15 = .ok (.aload_n 0, 1) := by decide +kernel
theorem dX1_write_16 : decode cX1_write 16 = .ok (.aload_n 0, 1) := by decide +kernel
theorem dX1_write_17 : decode cX1_write 17 = .ok (.aload_n 2, 1) := by decide +kernel
theorem dX1_write_18 : decode cX1_write 18 = .ok (.iload 6, 2) := by decide +kernel
theorem dX1_write_20 : decode cX1_write 20 = .ok (.iaload, 1) := by decide +kernel
theorem dX1_write_21 : decode cX1_write 21 = .ok (.iload 5, 2) := by decide +kernel
theorem dX1_write_23 : decode cX1_write 23 = .ok (.invokevirtual 27, 3) := by decide +kernel
theorem dX1_write_26 : decode cX1_write 26 = .ok (.aload_n 1, 1) := by decide +kernel
theorem dX1_write_27 : decode cX1_write 27 = .ok (.getfield 31, 3) := by decide +kernel
theorem dX1_write_30 : decode cX1_write 30 = .ok (.invokevirtual 37, 3) := by decide +kernel
theorem dX1_write_33 : decode cX1_write 33 = .ok (.ifCond .ne 5, 3) := by decide +kernel
theorem dX1_write_36 : decode cX1_write 36 = .ok (.iconst 0, 1) := by decide +kernel
theorem dX1_write_37 : decode cX1_write 37 = .ok (.ireturn, 1) := by decide +kernel
theorem dX1_write_38 : decode cX1_write 38 = .ok (.aload_n 2, 1) := by decide +kernel
theorem dX1_write_39 : decode cX1_write 39 = .ok (.iload 6, 2) := by decide +kernel
theorem dX1_write_41 : decode cX1_write 41 = .ok (.iaload, 1) := by decide +kernel
theorem dX1_write_42 : decode cX1_write 42 = .ok (.istore 5, 2) := by decide +kernel
theorem dX1_write_44 : decode cX1_write 44 = .ok (.iinc 6 1, 3) := by decide +kernel
theorem dX1_write_47 : decode cX1_write 47 = .ok (.goto (-41), 3) := by decide +kernel
theorem dX1_write_50 : decode cX1_write 50 = .ok (.iconst 1, 1) := by decide +kernel
theorem dX1_write_51 : decode cX1_write 51 = .ok (.ireturn, 1) := by decide +kernel
theorem dX1_read_0 : decode cX1_read 0 = .ok (.aload_n 1, 1) := by decide +kernel
theorem dX1_read_1 : decode cX1_read 1 = .ok (.getfield 31, 3) := by decide +kernel
theorem dX1_read_4 : decode cX1_read 4 = .ok (.astore 5, 2) := by decide +kernel
theorem dX1_read_6 : decode cX1_read 6 = .ok (.iconst 0, 1) := by decide +kernel
theorem dX1_read_7 : decode cX1_read 7 = .ok (.istore 6, 2) := by decide +kernel
theorem dX1_read_9 : decode cX1_read 9 = .ok (.iload_n 3, 1) := by decide +kernel
theorem dX1_read_10 : decode cX1_read 10 = .ok (.istore 7, 2) := by decide +kernel
theorem dX1_read_12 : decode cX1_read 12 = .ok (.iload 7, 2) := by decide +kernel
theorem dX1_read_14 : decode cX1_read 14 = .ok (.iload_n 3, 1) := by decide +kernel
theorem dX1_read_15 : decode cX1_read 15 = .ok (.iload 4, 2) := by decide +kernel
theorem dX1_read_17 : decode cX1_read 17 = .ok (.iadd, 1) := by decide +kernel
theorem dX1_read_18 : decode cX1_read 18 = .ok (.if_icmp .ge 98, 3) := by decide +kernel
theorem dX1_read_21 : decode cX1_read 21 = .ok (.aload 5, 2) := by decide +kernel
theorem dX1_read_23 : decode cX1_read 23 = .ok (.getfield 41, 3) := by decide +kernel
theorem dX1_read_26 : decode cX1_read 26 = .ok (.istore 8, 2) := by decide +kernel
theorem dX1_read_28 : decode cX1_read 28 = .ok (.aload_n 0, 1) := by decide +kernel
theorem dX1_read_29 : decode cX1_read 29 = .ok (.aload 5, 2) := by decide +kernel
theorem dX1_read_31 : decode cX1_read 31 = .ok (.invokevirtual 46, 3) := by decide +kernel
theorem dX1_read_34 : decode cX1_read 34 = .ok (.lstore 9, 2) := by decide +kernel
theorem dX1_read_36 : decode cX1_read 36 = .ok (.lload 9, 2) := by decide +kernel
theorem dX1_read_38 : decode cX1_read 38 = .ok (.ldc2_w 50, 3) := by decide +kernel
theorem dX1_read_41 : decode cX1_read 41 = .ok (.lcmp, 1) := by decide +kernel
theorem dX1_read_42 : decode cX1_read 42 = .ok (.ifCond .ne 12, 3) := by decide +kernel
theorem dX1_read_45 : decode cX1_read 45 = .ok (.aload 5, 2) := by decide +kernel
theorem dX1_read_47 : decode cX1_read 47 = .ok (.iconst 1, 1) := by decide +kernel
theorem dX1_read_48 : decode cX1_read 48 = .ok (.iload 8, 2) := by decide +kernel
theorem dX1_read_50 : decode cX1_read 50 = .ok (.invokevirtual 52, 3) := by decide +kernel
theorem dX1_read_53 : decode cX1_read 53 = .ok (.ireturn, 1) := by decide +kernel
theorem dX1_read_54 : decode cX1_read 54 = .ok (.aload_n 0, 1) := by decide +kernel
theorem dX1_read_55 : decode cX1_read 55 = .ok (.lload 9, 2) := by decide +kernel
theorem dX1_read_57 : decode cX1_read 57 = .ok (.invokevirtual 56, 3) := by decide +kernel
theorem dX1_read_60 : decode cX1_read 60 = .ok (.lstore 11, 2) := by decide +kernel
theorem dX1_read_62 : decode cX1_read 62 = .ok (.lload 11, 2) := by decide +kernel
theorem dX1_read_64 : decode cX1_read 64 = .ok (.ldc2_w 60, 3) := by decide +kernel
theorem dX1_read_67 : decode cX1_read 67 = .ok (.lcmp, 1) := by decide +kernel
theorem dX1_read_68 : decode cX1_read 68 = .ok (.ifCond .ne 12, 3) := by decide +kernel
theorem dX1_read_71 : decode cX1_read 71 = .ok (.aload 5, 2) := by decide +kernel
theorem dX1_read_73 : decode cX1_read 73 = .ok (.iconst 2, 1) := by decide +kernel
theorem dX1_read_74 : decode cX1_read 74 = .ok (.iload 8, 2) := by decide +kernel
theorem dX1_read_76 : decode cX1_read 76 = .ok (.invokevirtual 52, 3) := by decide +kernel
theorem dX1_read_79 : decode cX1_read 79 = .ok (.ireturn, 1) := by decide +kernel
theorem dX1_read_80 : decode cX1_read 80 = .ok (.aload_n 2, 1) := by decide +kernel
theorem dX1_read_81 : decode cX1_read 81 = .ok (.iload 7, 2) := by decide +kernel
theorem dX1_read_83 : decode cX1_read 83 = .ok (.aload_n 0, 1) := by decide +kernel
theorem dX1_read_84 : decode cX1_read 84 = .ok (.getfield 21, 3) := by decide +kernel
theorem dX1_read_87 : decode cX1_read 87 = .ok (.iconst 1, 1) := by decide +kernel
theorem dX1_read_88 : decode cX1_read 88 = .ok (.if_icmp .ne 12, 3) := by decide +kernel
theorem dX1_read_91 : decode cX1_read 91 = .ok (.iload 6, 2) := by decide +kernel
theorem dX1_read_93 : decode cX1_read 93 = .ok (.lload 11, 2) := by decide +kernel
theorem dX1_read_95 : decode cX1_read 95 = .ok (.l2i, 1) := by decide +kernel
theorem dX1_read_96 : decode cX1_read 96 = .ok (.iadd, 1) := by decide +kernel
theorem dX1_read_97 : decode cX1_read 97 = .ok (.goto 6, 3) := by decide +kernel
theorem dX1_read_100 : decode cX1_read 100 = .ok (.lload 11, 2) := by decide +kernel
theorem dX1_read_102 : decode cX1_read 102 = .ok (.l2i, 1) := by decide +kernel
theorem dX1_read_103 : decode cX1_read 103 = .ok (.iastore, 1) := by decide +kernel
theorem dX1_read_104 : decode cX1_read 104 = .ok (.aload_n 2, 1) := by decide +kernel
theorem dX1_read_105 : decode cX1_read 105 = .ok (.iload 7, 2) := by decide +kernel
theorem dX1_read_107 : decode cX1_read 107 = .ok (.iaload, 1) := by decide +kernel
theorem dX1_read_108 : decode cX1_read 108 = .ok (.istore 6, 2) := by decide +kernel
theorem dX1_read_110 : decode cX1_read 110 = .ok (.iinc 7 1, 3) := by decide +kernel
theorem dX1_read_113 : decode cX1_read 113 = .ok (.goto (-101), 3) := by decide +kernel
theorem dX1_read_116 : decode cX1_read 116 = .ok (.iconst 1, 1) := by decide +kernel
theorem dX1_read_117 : decode cX1_read 117 = .ok (.ireturn, 1) := by decide +kernel
theorem dX1_bytesOf_0 : decode cX1_bytesOf 0 = .ok (.aload_n 0, 1) := by decide +kernel
theorem dX1_bytesOf_1 : decode cX1_bytesOf 1 = .ok (.iload_n 1, 1) := by decide +kernel
theorem dX1_bytesOf_2 : decode cX1_bytesOf 2 = .ok (.iload_n 2, 1) := by decide +kernel
theorem dX1_bytesOf_3 : decode cX1_bytesOf 3 = .ok (.invokevirtual 27, 3) := by decide +kernel
theorem dX1_bytesOf_6 : decode cX1_bytesOf 6 = .ok (.lstore_n 3, 1) := by decide +kernel
theorem dX1_bytesOf_7 : decode cX1_bytesOf 7 = .ok (.lload_n 3, 1) := by decide +kernel
theorem dX1_bytesOf_8 : decode cX1_bytesOf 8 = .ok (.ldc2_w 50, 3) := by decide +kernel
theorem dX1_bytesOf_11 : decode cX1_bytesOf 11 = .ok (.lcmp, 1) := by decide +kernel
theorem dX1_bytesOf_12 : decode cX1_bytesOf 12 = .ok (.ifCond .ne 5, 3) := by decide +kernel
theorem dX1_bytesOf_15 : decode cX1_bytesOf 15 = .ok (.iconst (-1), 1) := by decide +kernel
theorem dX1_bytesOf_16 : decode cX1_bytesOf 16 = .ok (.ireturn, 1) := by decide +kernel
theorem dX1_bytesOf_17 : decode cX1_bytesOf 17 = .ok (.iconst 1, 1) := by decide +kernel
theorem dX1_bytesOf_18 : decode cX1_bytesOf 18 = .ok (.istore 5, 2) := by decide +kernel
theorem dX1_bytesOf_20 : decode cX1_bytesOf 20 = .ok (.iload 5, 2) := by decide +kernel
theorem dX1_bytesOf_22 : decode cX1_bytesOf 22 = .ok (.aload_n 0, 1) := by decide +kernel
theorem dX1_bytesOf_23 : decode cX1_bytesOf 23 = .ok (.getfield 9, 3) := by decide +kernel
theorem dX1_bytesOf_26 : decode cX1_bytesOf 26 = .ok (.if_icmp .ge 36, 3) := by decide +kernel
theorem dX1_bytesOf_29 : decode cX1_bytesOf 29 = .ok (.lload_n 3, 1) := by decide +kernel
theorem dX1_bytesOf_30 : decode cX1_bytesOf 30 = .ok (.aload_n 0, 1) := by decide +kernel
theorem dX1_bytesOf_31 : decode cX1_bytesOf 31 = .ok (.getfield 24, 3) := by decide +kernel
theorem dX1_bytesOf_34 : decode cX1_bytesOf 34 = .ok (.i2l, 1) := by decide +kernel
theorem dX1_bytesOf_35 : decode cX1_bytesOf 35 = .ok (.lcmp, 1) := by decide +kernel
theorem dX1_bytesOf_36 : decode cX1_bytesOf 36 = .ok (.ifCond .ge 6, 3) := by decide +kernel
theorem dX1_bytesOf_39 : decode cX1_bytesOf 39 = .ok (.iload 5, 2) := by decide +kernel
theorem dX1_bytesOf_41 : decode cX1_bytesOf 41 = .ok (.ireturn, 1) := by decide +kernel
theorem dX1_bytesOf_42 : decode cX1_bytesOf 42 = .ok (.lload_n 3, 1) := by decide +kernel
theorem dX1_bytesOf_43 : decode cX1_bytesOf 43 = .ok (.aload_n 0, 1) := by decide +kernel
theorem dX1_bytesOf_44 : decode cX1_bytesOf 44 = .ok (.getfield 24, 3) := by decide +kernel
theorem dX1_bytesOf_47 : decode cX1_bytesOf 47 = .ok (.i2l, 1) := by decide +kernel
theorem dX1_bytesOf_48 : decode cX1_bytesOf 48 = .ok (.lsub, 1) := by decide +kernel
theorem dX1_bytesOf_49 : decode cX1_bytesOf 49 = .ok (.aload_n 0, 1) := by decide +kernel
theorem dX1_bytesOf_50 : decode cX1_bytesOf 50 = .ok (.getfield 15, 3) := by decide +kernel
theorem dX1_bytesOf_53 : decode cX1_bytesOf 53 = .ok (.i2l, 1) := by decide +kernel
theorem dX1_bytesOf_54 : decode cX1_bytesOf 54 = .ok (.ldiv, 1) := by decide +kernel
theorem dX1_bytesOf_55 : decode cX1_bytesOf 55 = .ok (.lstore_n 3, 1) := by decide +kernel
theorem dX1_bytesOf_56 : decode cX1_bytesOf 56 = .ok (.iinc 5 1, 3) := by decide +kernel
theorem dX1_bytesOf_59 : decode cX1_bytesOf 59 = .ok (.goto (-39), 3) := by decide +kernel
theorem dX1_bytesOf_62 : decode cX1_bytesOf 62 = .ok (.lload_n 3, 1) := by decide +kernel
theorem dX1_bytesOf_63 : decode cX1_bytesOf 63 = .ok (.ldc2_w 62, 3) := by decide +kernel
theorem dX1_bytesOf_66 : decode cX1_bytesOf 66 = .ok (.lcmp, 1) := by decide +kernel
theorem dX1_bytesOf_67 : decode cX1_bytesOf 67 = .ok (.ifCond .ge 10, 3) := by decide +kernel
theorem dX1_bytesOf_70 : decode cX1_bytesOf 70 = .ok (.aload_n 0, 1) := by decide +kernel
theorem dX1_bytesOf_71 : decode cX1_bytesOf 71 = .ok (.getfield 9, 3) := by decide +kernel
theorem dX1_bytesOf_74 : decode cX1_bytesOf 74 = .ok (.goto 4, 3) := by decide +kernel
theorem dX1_bytesOf_77 : decode cX1_bytesOf 77 = .ok (.iconst (-1), 1) := by decide +kernel
theorem dX1_bytesOf_78 : decode cX1_bytesOf 78 = .ok (.ireturn, 1) := by decide +kernel
theorem dX1_writeCode_0 : decode cX1_writeCode 0 = .ok (.lload_n 1, 1) := by decide +kernel
theorem dX1_writeCode_1 : decode cX1_writeCode 1 = .ok (.ldc2_w 50, 3) := by decide +kernel
theorem dX1_writeCode_4 : decode cX1_writeCode 4 = .ok (.lcmp, 1) := by decide +kernel
theorem dX1_writeCode_5 : decode cX1_writeCode 5 = .ok (.ifCond .ne 5, 3) := by decide +kernel
theorem dX1_writeCode_8 : decode cX1_writeCode 8 = .ok (.iconst 0, 1) := by decide +kernel
theorem dX1_writeCode_9 : decode cX1_writeCode 9 = .ok (.ireturn, 1) := by decide +kernel
theorem dX1_writeCode_10 : decode cX1_writeCode 10 = .ok (.lload_n 1, 1) := by decide +kernel
theorem dX1_writeCode_11 : decode cX1_writeCode 11 = .ok (.lstore 4, 2) := by decide +kernel
theorem dX1_writeCode_13 : decode cX1_writeCode 13 = .ok (.iconst 1, 1) := by decide +kernel
theorem dX1_writeCode_14 : decode cX1_writeCode 14 = .ok (.istore 6, 2) := by decide +kernel
theorem dX1_writeCode_16 : decode cX1_writeCode 16 = .ok (.iload 6, 2) := by decide +kernel
theorem dX1_writeCode_18 : decode cX1_writeCode 18 = .ok (.aload_n 0, 1) := by decide +kernel
theorem dX1_writeCode_19 : decode cX1_writeCode 19 = .ok (.getfield 9, 3) := by decide +kernel
theorem dX1_writeCode_22 : decode cX1_writeCode 22 = .ok (.if_icmp .ge 69, 3) := by decide +kernel
theorem dX1_writeCode_25 : decode cX1_writeCode 25 = .ok (.lload 4, 2) := by decide +kernel
theorem dX1_writeCode_27 : decode cX1_writeCode 27 = .ok (.aload_n 0, 1) := by decide +kernel
theorem dX1_writeCode_28 : decode cX1_writeCode 28 = .ok (.getfield 24, 3) := by decide +kernel
theorem dX1_writeCode_31 : decode cX1_writeCode 31 = .ok (.i2l, 1) := by decide +kernel
theorem dX1_writeCode_32 : decode cX1_writeCode 32 = .ok (.lcmp, 1) := by decide +kernel
theorem dX1_writeCode_33 : decode cX1_writeCode 33 = .ok (.ifCond .ge 12, 3) := by decide +kernel
theorem dX1_writeCode_36 : decode cX1_writeCode 36 = .ok (.aload_n 3, 1) := by decide +kernel
theorem dX1_writeCode_37 : decode cX1_writeCode 37 = .ok (.lload 4, 2) := by decide +kernel
theorem dX1_writeCode_39 : decode cX1_writeCode 39 = .ok (.l2i, 1) := by decide +kernel
theorem dX1_writeCode_40 : decode cX1_writeCode 40 = .ok (.invokevirtual 64, 3) := by decide +kernel
theorem dX1_writeCode_43 : decode cX1_writeCode 43 = .ok (.iconst 1, 1) := by decide +kernel
theorem dX1_writeCode_44 : decode cX1_writeCode 44 = .ok (.ireturn, 1) := by decide +kernel
theorem dX1_writeCode_45 : decode cX1_writeCode 45 = .ok (.aload_n 3, 1) := by decide +kernel
theorem dX1_writeCode_46 : decode cX1_writeCode 46 = .ok (.aload_n 0, 1) := by decide +kernel
theorem dX1_writeCode_47 : decode cX1_writeCode 47 = .ok (.getfield 24, 3) := by decide +kernel
theorem dX1_writeCode_50 : decode cX1_writeCode 50 = .ok (.lload 4, 2) := by decide +kernel
theorem dX1_writeCode_52 : decode cX1_writeCode 52 = .ok (.aload_n 0, 1) := by decide +kernel
theorem dX1_writeCode_53 : decode cX1_writeCode 53 = .ok (.getfield 24, 3) := by decide +kernel
theorem dX1_writeCode_56 : decode cX1_writeCode 56 = .ok (.i2l, 1) := by decide +kernel
theorem dX1_writeCode_57 : decode cX1_writeCode 57 = .ok (.lsub, 1) := by decide +kernel
theorem dX1_writeCode_58 : decode cX1_writeCode 58 = .ok (.aload_n 0, 1) := by decide +kernel
theorem dX1_writeCode_59 : decode cX1_writeCode 59 = .ok (.getfield 15, 3) := by decide +kernel
theorem dX1_writeCode_62 : decode cX1_writeCode 62 = .ok (.i2l, 1) := by decide +kernel
theorem dX1_writeCode_63 : decode cX1_writeCode 63 = .ok (.lrem, 1) := by decide +kernel
theorem dX1_writeCode_64 : decode cX1_writeCode 64 = .ok (.l2i, 1) := by decide +kernel
theorem dX1_writeCode_65 : decode cX1_writeCode 65 = .ok (.iadd, 1) := by decide +kernel
theorem dX1_writeCode_66 : decode cX1_writeCode 66 = .ok (.invokevirtual 64, 3) := by decide +kernel
theorem dX1_writeCode_69 : decode cX1_writeCode 69 = .ok (.lload 4, 2) := by decide +kernel
theorem dX1_writeCode_71 : decode cX1_writeCode 71 = .ok (.aload_n 0, 1) := by decide +kernel
theorem dX1_writeCode_72 : decode cX1_writeCode 72 = .ok (.getfield 24, 3) := by decide +kernel
theorem dX1_writeCode_75 : decode cX1_writeCode 75 = .ok (.i2l, 1) := by decide +kernel
theorem dX1_writeCode_76 : decode cX1_writeCode 76 = .ok (.lsub, 1) := by decide +kernel
theorem dX1_writeCode_77 : decode cX1_writeCode 77 = .ok (.aload_n 0, 1) := by decide +kernel
theorem dX1_writeCode_78 : decode cX1_writeCode 78 = .ok (.getfield 15, 3) := by decide +kernel
theorem dX1_writeCode_81 : decode cX1_writeCode 81 = .ok (.i2l, 1) := by decide +kernel
theorem dX1_writeCode_82 : decode cX1_writeCode 82 = .ok (.ldiv, 1) := by decide +kernel
theorem dX1_writeCode_83 : decode cX1_writeCode 83 = .ok (.lstore 4, 2) := by decide +kernel
theorem dX1_writeCode_85 : decode cX1_writeCode 85 = .ok (.iinc 6 1, 3) := by decide +kernel
theorem dX1_writeCode_88 : decode cX1_writeCode 88 = .ok (.goto (-72), 3) := by decide +kernel
theorem dX1_writeCode_91 : decode cX1_writeCode 91 = .ok (.aload_n 3, 1) := by decide +kernel
theorem dX1_writeCode_92 : decode cX1_writeCode 92 = .ok (.lload 4, 2) := by decide +kernel
theorem dX1_writeCode_94 : decode cX1_writeCode 94 = .ok (.l2i, 1) := by decide +kernel
theorem dX1_writeCode_95 : decode cX1_writeCode 95 = .ok (.invokevirtual 64, 3) := by decide +kernel
theorem dX1_writeCode_98 : decode cX1_writeCode 98 = .ok (.lload 4, 2) := by decide +kernel
theorem dX1_writeCode_100 : decode cX1_writeCode 100 = .ok (.ldc2_w 62, 3) := by decide +kernel
theorem dX1_writeCode_103 : decode cX1_writeCode 103 = .ok (.lcmp, 1) := by decide +kernel
theorem dX1_writeCode_104 : decode cX1_writeCode 104 = .ok (.ifCond .ge 7, 3) := by decide +kernel
theorem dX1_writeCode_107 : decode cX1_writeCode 107 = .ok (.iconst 1, 1) := by decide +kernel
theorem dX1_writeCode_108 : decode cX1_writeCode 108 = .ok (.goto 4, 3) := by decide +kernel
theorem dX1_writeCode_111 : decode cX1_writeCode 111 = .ok (.iconst 0, 1) := by decide +kernel
theorem dX1_writeCode_112 : decode cX1_writeCode 112 = .ok (.ireturn, 1) := by decide +kernel
theorem dX1_readCode_0 : decode cX1_readCode 0 = .ok (.lconst 0, 1) := by decide +kernel
theorem dX1_readCode_1 : decode cX1_readCode 1 = .ok (.lstore_n 2, 1) := by decide +kernel
theorem dX1_readCode_2 : decode cX1_readCode 2 = .ok (.lconst 1, 1) := by decide +kernel
theorem dX1_readCode_3 : decode cX1_readCode 3 = .ok (.lstore 4, 2) := by decide +kernel
theorem dX1_readCode_5 : decode cX1_readCode 5 = .ok (.iconst 0, 1) := by decide +kernel
theorem dX1_readCode_6 : decode cX1_readCode 6 = .ok (.istore 6, 2) := by decide +kernel
theorem dX1_readCode_8 : decode cX1_readCode 8 = .ok (.iload 6, 2) := by decide +kernel
theorem dX1_readCode_10 : decode cX1_readCode 10 = .ok (.aload_n 0, 1) := by decide +kernel
theorem dX1_readCode_11 : decode cX1_readCode 11 = .ok (.getfield 9, 3) := by decide +kernel
theorem dX1_readCode_14 : decode cX1_readCode 14 = .ok (.if_icmp .ge 55, 3) := by decide +kernel
theorem dX1_readCode_17 : decode cX1_readCode 17 = .ok (.aload_n 1, 1) := by decide +kernel
theorem dX1_readCode_18 : decode cX1_readCode 18 = .ok (.invokevirtual 67, 3) := by decide +kernel
theorem dX1_readCode_21 : decode cX1_readCode 21 = .ok (.istore 7, 2) := by decide +kernel
theorem dX1_readCode_23 : decode cX1_readCode 23 = .ok (.iload 7, 2) := by decide +kernel
theorem dX1_readCode_25 : decode cX1_readCode 25 = .ok (.iconst (-1), 1) := by decide +kernel
theorem dX1_readCode_26 : decode cX1_readCode 26 = .ok (.if_icmp .ne 7, 3) := by decide +kernel
theorem dX1_readCode_29 : decode cX1_readCode 29 = .ok (.ldc2_w 50, 3) := by decide +kernel
theorem dX1_readCode_32 : decode cX1_readCode 32 = .ok (.lreturn, 1) := by decide +kernel
theorem dX1_readCode_33 : decode cX1_readCode 33 = .ok (.lload_n 2, 1) := by decide +kernel
theorem dX1_readCode_34 : decode cX1_readCode 34 = .ok (.iload 7, 2) := by decide +kernel
theorem dX1_readCode_36 : decode cX1_readCode 36 = .ok (.i2l, 1) := by decide +kernel
theorem dX1_readCode_37 : decode cX1_readCode 37 = .ok (.lload 4, 2) := by decide +kernel
theorem dX1_readCode_39 : decode cX1_readCode 39 = .ok (.lmul, 1) := by decide +kernel
theorem dX1_readCode_40 : decode cX1_readCode 40 = .ok (.ladd, 1) := by decide +kernel
theorem dX1_readCode_41 : decode cX1_readCode 41 = .ok (.lstore_n 2, 1) := by decide +kernel
theorem dX1_readCode_42 : decode cX1_readCode 42 = .ok (.iload 7, 2) := by decide +kernel
theorem dX1_readCode_44 : decode cX1_readCode 44 = .ok (.aload_n 0, 1) := by decide +kernel
theorem dX1_readCode_45 : decode cX1_readCode 45 = .ok (.getfield 24, 3) := by decide +kernel
theorem dX1_readCode_48 : decode cX1_readCode 48 = .ok (.if_icmp .ge 5, 3) := by decide +kernel
theorem dX1_readCode_51 : decode cX1_readCode 51 = .ok (.lload_n 2, 1) := by decide +kernel
theorem dX1_readCode_52 : decode cX1_readCode 52 = .ok (.lreturn, 1) := by decide +kernel
theorem dX1_readCode_53 : decode cX1_readCode 53 = .ok (.lload 4, 2) := by decide +kernel
theorem dX1_readCode_55 : decode cX1_readCode 55 = .ok (.aload_n 0, 1) := by decide +kernel
theorem dX1_readCode_56 : decode cX1_readCode 56 = .ok (.getfield 15, 3) := by decide +kernel
theorem dX1_readCode_59 : decode cX1_readCode 59 = .ok (.i2l, 1) := by decide +kernel
theorem dX1_readCode_60 : decode cX1_readCode 60 = .ok (.lmul, 1) := by decide +kernel
theorem dX1_readCode_61 : decode cX1_readCode 61 = .ok (.lstore 4, 2) := by decide +kernel
theorem dX1_readCode_63 : decode cX1_readCode 63 = .ok (.iinc 6 1, 3) := by decide +kernel
theorem dX1_readCode_66 : decode cX1_readCode 66 = .ok (.goto (-58), 3) := by decide +kernel
theorem dX1_readCode_69 : decode cX1_readCode 69 = .ok (.lload_n 2, 1) := by decide +kernel
theorem dX1_readCode_70 : decode cX1_readCode 70 = .ok (.lreturn, 1) := by decide +kernel
theorem dX1_codeOf_0 : decode cX1_codeOf 0 = .ok (.aload_n 0, 1) := by decide +kernel
theorem dX1_codeOf_1 : decode cX1_codeOf 1 = .ok (.getfield 21, 3) := by decide +kernel
theorem dX1_codeOf_4 : decode cX1_codeOf 4 = .ok (.iconst 1, 1) := by decide +kernel
theorem dX1_codeOf_5 : decode cX1_codeOf 5 = .ok (.if_icmp .ne 10, 3) := by decide +kernel
theorem dX1_codeOf_8 : decode cX1_codeOf 8 = .ok (.iload_n 1, 1) := by decide +kernel
theorem dX1_codeOf_9 : decode cX1_codeOf 9 = .ok (.iload_n 2, 1) := by decide +kernel
theorem dX1_codeOf_10 : decode cX1_codeOf 10 = .ok (.isub, 1) := by decide +kernel
theorem dX1_codeOf_11 : decode cX1_codeOf 11 = .ok (.i2l, 1) := by decide +kernel
theorem dX1_codeOf_12 : decode cX1_codeOf 12 = .ok (.goto 5, 3) := by decide +kernel
theorem dX1_codeOf_15 : decode cX1_codeOf 15 = .ok (.iload_n 1, 1) := by decide +kernel
theorem dX1_codeOf_16 : decode cX1_codeOf 16 = .ok (.i2l, 1) := by decide +kernel
theorem dX1_codeOf_17 : decode cX1_codeOf 17 = .ok (.lstore_n 3, 1) := by decide +kernel
theorem dX1_codeOf_18 : decode cX1_codeOf 18 = .ok (.lload_n 3, 1) := by decide +kernel
theorem dX1_codeOf_19 : decode cX1_codeOf 19 = .ok (.lconst 0, 1) := by decide +kernel
theorem dX1_codeOf_20 : decode cX1_codeOf 20 = .ok (.lcmp, 1) := by decide +kernel
theorem dX1_codeOf_21 : decode cX1_codeOf 21 = .ok (.ifCond .lt 28, 3) := by decide +kernel
theorem dX1_codeOf_24 : decode cX1_codeOf 24 = .ok (.aload_n 0, 1) := by decide +kernel
theorem dX1_codeOf_25 : decode cX1_codeOf 25 = .ok (.getfield 18, 3) := by decide +kernel
theorem dX1_codeOf_28 : decode cX1_codeOf 28 = .ok (.ifCond .ne 7, 3) := by decide +kernel
theorem dX1_codeOf_31 : decode cX1_codeOf 31 = .ok (.lload_n 3, 1) := by decide +kernel
theorem dX1_codeOf_32 : decode cX1_codeOf 32 = .ok (.goto 16, 3) := by decide +kernel
theorem dX1_codeOf_35 : decode cX1_codeOf 35 = .ok (.lload_n 3, 1) := by decide +kernel
theorem dX1_codeOf_36 : decode cX1_codeOf 36 = .ok (.lload_n 3, 1) := by decide +kernel
theorem dX1_codeOf_37 : decode cX1_codeOf 37 = .ok (.iconst 1, 1) := by decide +kernel
theorem dX1_codeOf_38 : decode cX1_codeOf 38 = .ok (.aload_n 0, 1) := by decide +kernel
theorem dX1_codeOf_39 : decode cX1_codeOf 39 = .ok (.getfield 18, 3) := by decide +kernel
theorem dX1_codeOf_42 : decode cX1_codeOf 42 = .ok (.ishl, 1) := by decide +kernel
theorem dX1_codeOf_43 : decode cX1_codeOf 43 = .ok (.iconst 1, 1) := by decide +kernel
theorem dX1_codeOf_44 : decode cX1_codeOf 44 = .ok (.isub, 1) := by decide +kernel
theorem dX1_codeOf_45 : decode cX1_codeOf 45 = .ok (.i2l, 1) := by decide +kernel
theorem dX1_codeOf_46 : decode cX1_codeOf 46 = .ok (.ldiv, 1) := by decide +kernel
theorem dX1_codeOf_47 : decode cX1_codeOf 47 = .ok (.ladd, 1) := by decide +kernel
theorem dX1_codeOf_48 : decode cX1_codeOf 48 = .ok (.lreturn, 1) := by decide +kernel
theorem dX1_codeOf_49 : decode cX1_codeOf 49 = .ok (.lload_n 3, 1) := by decide +kernel
theorem dX1_codeOf_50 : decode cX1_codeOf 50 = .ok (.lneg, 1) := by decide +kernel
theorem dX1_codeOf_51 : decode cX1_codeOf 51 = .ok (.aload_n 0, 1) := by decide +kernel
theorem dX1_codeOf_52 : decode cX1_codeOf 52 = .ok (.getfield 18, 3) := by decide +kernel
theorem dX1_codeOf_55 : decode cX1_codeOf 55 = .ok (.lshl, 1) := by decide +kernel
theorem dX1_codeOf_56 : decode cX1_codeOf 56 = .ok (.lconst 1, 1) := by decide +kernel
theorem dX1_codeOf_57 : decode cX1_codeOf 57 = .ok (.lsub, 1) := by decide +kernel
theorem dX1_codeOf_58 : decode cX1_codeOf 58 = .ok (.lstore 5, 2) := by decide +kernel
theorem dX1_codeOf_60 : decode cX1_codeOf 60 = .ok (.aload_n 0, 1) := by decide +kernel
theorem dX1_codeOf_61 : decode cX1_codeOf 61 = .ok (.getfield 18, 3) := by decide +kernel
theorem dX1_codeOf_64 : decode cX1_codeOf 64 = .ok (.ifCond .eq 17, 3) := by decide +kernel
theorem dX1_codeOf_67 : decode cX1_codeOf 67 = .ok (.lload 5, 2) := by decide +kernel
theorem dX1_codeOf_69 : decode cX1_codeOf 69 = .ok (.ldc2_w 60, 3) := by decide +kernel
theorem dX1_codeOf_72 : decode cX1_codeOf 72 = .ok (.lcmp, 1) := by decide +kernel
theorem dX1_codeOf_73 : decode cX1_codeOf 73 = .ok (.ifCond .ge 8, 3) := by decide +kernel
theorem dX1_codeOf_76 : decode cX1_codeOf 76 = .ok (.lload 5, 2) := by decide +kernel
theorem dX1_codeOf_78 : decode cX1_codeOf 78 = .ok (.goto 6, 3) := by decide +kernel
theorem dX1_codeOf_81 : decode cX1_codeOf 81 = .ok (.ldc2_w 50, 3) := by decide +kernel
theorem dX1_codeOf_84 : decode cX1_codeOf 84 = .ok (.lreturn, 1) := by decide +kernel
theorem dX1_numberOf_0 : decode cX1_numberOf 0 = .ok (.lload_n 1, 1) := by decide +kernel
theorem dX1_numberOf_1 : decode cX1_numberOf 1 = .ok (.ldc2_w 60, 3) := by decide +kernel
theorem dX1_numberOf_4 : decode cX1_numberOf 4 = .ok (.lcmp, 1) := by decide +kernel
theorem dX1_numberOf_5 : decode cX1_numberOf 5 = .ok (.ifCond .lt 7, 3) := by decide +kernel
theorem dX1_numberOf_8 : decode cX1_numberOf 8 = .ok (.ldc2_w 60, 3) := by decide +kernel
theorem dX1_numberOf_11 : decode cX1_numberOf 11 = .ok (.lreturn, 1) := by decide +kernel
theorem dX1_numberOf_12 : decode cX1_numberOf 12 = .ok (.aload_n 0, 1) := by decide +kernel
theorem dX1_numberOf_13 : decode cX1_numberOf 13 = .ok (.getfield 18, 3) := by decide +kernel
theorem dX1_numberOf_16 : decode cX1_numberOf 16 = .ok (.ifCond .eq 23, 3) := by decide +kernel
theorem dX1_numberOf_19 : decode cX1_numberOf 19 = .ok (.lload_n 1, 1) := by decide +kernel
theorem dX1_numberOf_20 : decode cX1_numberOf 20 = .ok (.lconst 1, 1) := by decide +kernel
theorem dX1_numberOf_21 : decode cX1_numberOf 21 = .ok (.ladd, 1) := by decide +kernel
theorem dX1_numberOf_22 : decode cX1_numberOf 22 = .ok (.iconst 1, 1) := by decide +kernel
theorem dX1_numberOf_23 : decode cX1_numberOf 23 = .ok (.aload_n 0, 1) := by decide +kernel
theorem dX1_numberOf_24 : decode cX1_numberOf 24 = .ok (.getfield 18, 3) := by decide +kernel
theorem dX1_numberOf_27 : decode cX1_numberOf 27 = .ok (.ishl, 1) := by decide +kernel
theorem dX1_numberOf_28 : decode cX1_numberOf 28 = .ok (.i2l, 1) := by decide +kernel
theorem dX1_numberOf_29 : decode cX1_numberOf 29 = .ok (.lrem, 1) := by decide +kernel
theorem dX1_numberOf_30 : decode cX1_numberOf 30 = .ok (.lconst 0, 1) := by decide +kernel
theorem dX1_numberOf_31 : decode cX1_numberOf 31 = .ok (.lcmp, 1) := by decide +kernel
theorem dX1_numberOf_32 : decode cX1_numberOf 32 = .ok (.ifCond .ne 7, 3) := by decide +kernel
theorem dX1_numberOf_35 : decode cX1_numberOf 35 = .ok (.iconst 1, 1) := by decide +kernel
theorem dX1_numberOf_36 : decode cX1_numberOf 36 = .ok (.goto 4, 3) := by decide +kernel
theorem dX1_numberOf_39 : decode cX1_numberOf 39 = .ok (.iconst 0, 1) := by decide +kernel
theorem dX1_numberOf_40 : decode cX1_numberOf 40 = .ok (.istore_n 3, 1) := by decide +kernel
theorem dX1_numberOf_41 : decode cX1_numberOf 41 = .ok (.iload_n 3, 1) := by decide +kernel
theorem dX1_numberOf_42 : decode cX1_numberOf 42 = .ok (.ifCond .eq 13, 3) := by decide +kernel
theorem dX1_numberOf_45 : decode cX1_numberOf 45 = .ok (.lload_n 1, 1) := by decide +kernel
theorem dX1_numberOf_46 : decode cX1_numberOf 46 = .ok (.lconst 1, 1) := by decide +kernel
theorem dX1_numberOf_47 : decode cX1_numberOf 47 = .ok (.ladd, 1) := by decide +kernel
theorem dX1_numberOf_48 : decode cX1_numberOf 48 = .ok (.aload_n 0, 1) := by decide +kernel
theorem dX1_numberOf_49 : decode cX1_numberOf 49 = .ok (.getfield 18, 3) := by decide +kernel
theorem dX1_numberOf_52 : decode cX1_numberOf 52 = .ok (.lshr, 1) := by decide +kernel
theorem dX1_numberOf_53 : decode cX1_numberOf 53 = .ok (.lneg, 1) := by decide +kernel
theorem dX1_numberOf_54 : decode cX1_numberOf 54 = .ok (.lreturn, 1) := by decide +kernel
theorem dX1_numberOf_55 : decode cX1_numberOf 55 = .ok (.aload_n 0, 1) := by decide +kernel
theorem dX1_numberOf_56 : decode cX1_numberOf 56 = .ok (.getfield 18, 3) := by decide +kernel
theorem dX1_numberOf_59 : decode cX1_numberOf 59 = .ok (.ifCond .ne 7, 3) := by decide +kernel
theorem dX1_numberOf_62 : decode cX1_numberOf 62 = .ok (.lload_n 1, 1) := by decide +kernel
theorem dX1_numberOf_63 : decode cX1_numberOf 63 = .ok (.goto 11, 3) := by decide +kernel
theorem dX1_numberOf_66 : decode cX1_numberOf 66 = .ok (.lload_n 1, 1) := by decide +kernel
theorem dX1_numberOf_67 : decode cX1_numberOf 67 = .ok (.lload_n 1, 1) := by decide +kernel
theorem dX1_numberOf_68 : decode cX1_numberOf 68 = .ok (.aload_n 0, 1) := by decide +kernel
theorem dX1_numberOf_69 : decode cX1_numberOf 69 = .ok (.getfield 18, 3) := by decide +kernel
theorem dX1_numberOf_72 : decode cX1_numberOf 72 = .ok (.lshr, 1) := by decide +kernel
theorem dX1_numberOf_73 : decode cX1_numberOf 73 = .ok (.lsub, 1) := by decide +kernel
theorem dX1_numberOf_74 : decode cX1_numberOf 74 = .ok (.lstore 4, 2) := by decide +kernel
theorem dX1_numberOf_76 : decode cX1_numberOf 76 = .ok (.lload 4, 2) := by decide +kernel
theorem dX1_numberOf_78 : decode cX1_numberOf 78 = .ok (.ldc2_w 71, 3) := by decide +kernel
theorem dX1_numberOf_81 : decode cX1_numberOf 81 = .ok (.lcmp, 1) := by decide +kernel
theorem dX1_numberOf_82 : decode cX1_numberOf 82 = .ok (.ifCond .ge 8, 3) := by decide +kernel
theorem dX1_numberOf_85 : decode cX1_numberOf 85 = .ok (.lload 4, 2) := by decide +kernel
theorem dX1_numberOf_87 : decode cX1_numberOf 87 = .ok (.goto 6, 3) := by decide +kernel
theorem dX1_numberOf_90 : decode cX1_numberOf 90 = .ok (.ldc2_w 60, 3) := by decide +kernel
theorem dX1_numberOf_93 : decode cX1_numberOf 93 = .ok (.lreturn, 1) := by decide +kernel
theorem dX2_init_0 : decode cX2_init 0 = .ok (.aload_n 0, 1) := by decide +kernel
theorem dX2_init_1 : decode cX2_init 1 = .ok (.invokespecial 3, 3) := by decide +kernel
theorem dX2_init_4 : decode cX2_init 4 = .ok (.aload_n 0, 1) := by decide +kernel
theorem dX2_init_5 : decode cX2_init 5 = .ok (.new 9, 3) := by decide +kernel
theorem dX2_init_8 : decode cX2_init 8 = .ok (.dup, 1) := by decide +kernel
theorem dX2_init_9 : decode cX2_init 9 = .ok (.invokespecial 11, 3) := by decide +kernel
theorem dX2_init_12 : decode cX2_init 12 = .ok (.putfield 12, 3) := by decide +kernel
theorem dX2_init_15 : decode cX2_init 15 = .ok (.aload_n 0, 1) := by decide +kernel
theorem dX2_init_16 : decode cX2_init 16 = .ok (.new 18, 3) := by decide +kernel
theorem dX2_init_19 : decode cX2_init 19 = .ok (.dup, 1) := by decide +kernel
theorem dX2_init_20 : decode cX2_init 20 = .ok (.invokespecial 20, 3) := by decide +kernel
theorem dX2_init_23 : decode cX2_init 23 = .ok (.putfield 21, 3) := by decide +kernel
theorem dX2_init_26 : decode cX2_init 26 = .ok (.aload_n 0, 1) := by decide +kernel
theorem dX2_init_27 : decode cX2_init 27 = .ok (.iconst 4, 1) := by decide +kernel
theorem dX2_init_28 : decode cX2_init 28 = .ok (.anewarray 25, 3) := by decide +kernel
theorem dX2_init_31 : decode cX2_init 31 = .ok (.putfield 27, 3) := by decide +kernel
theorem dX2_init_34 : decode cX2_init 34 = .ok (.iconst 0, 1) := by decide +kernel
theorem dX2_init_35 : decode cX2_init 35 = .ok (.istore_n 1, 1) := by decide +kernel
theorem dX2_init_36 : decode cX2_init 36 = .ok (.iload_n 1, 1) := by decide +kernel
theorem dX2_init_37 : decode cX2_init 37 = .ok (.iconst 4, 1) := by decide +kernel
theorem dX2_init_38 : decode cX2_init 38 = .ok (.if_icmp .ge 22, 3) := by decide +kernel
theorem dX2_init_41 : decode cX2_init 41 = .ok (.aload_n 0, 1) := by decide +kernel
theorem dX2_init_42 : decode cX2_init 42 = .ok (.getfield 27, 3) := by decide +kernel
theorem dX2_init_45 : decode cX2_init 45 = .ok (.iload_n 1, 1) := by decide +kernel
theorem dX2_init_46 : decode cX2_init 46 = .ok (.new 25, 3) := by decide +kernel
theorem dX2_init_49 : decode cX2_init 49 = .ok (.dup, 1) := by decide +kernel
theorem dX2_init_50 : decode cX2_init 50 = .ok (.invokespecial 31, 3) := by decide +kernel
theorem dX2_init_53 : decode cX2_init 53 = .ok (.aastore, 1) := by decide +kernel
theorem dX2_init_54 : decode cX2_init 54 = .ok (.iinc 1 1, 3) := by decide +kernel
theorem dX2_init_57 : decode cX2_init 57 = .ok (.goto (-21), 3) := by decide +kernel
theorem dX2_init_60 : decode cX2_init 60 = .ok (.return_, 1) := by decide +kernel
theorem dX3_init_0 : decode cX3_init 0 = .ok (.aload_n 0, 1) := by decide +kernel
theorem dX3_init_1 : decode cX3_init 1 = .ok (.invokespecial 3, 3) := by decide +kernel
theorem dX3_init_4 : decode cX3_init 4 = .ok (.aload_n 0, 1) := by decide +kernel
theorem dX3_init_5 : decode cX3_init 5 = .ok (.bipush 51, 2) := by decide +kernel
theorem dX3_init_7 : decode cX3_init 7 = .ok (.newarray .int, 2) := by decide +kernel
theorem dX3_init_9 : decode cX3_init 9 = .ok (.putfield 9, 3) := by decide +kernel
theorem dX3_init_12 : decode cX3_init 12 = .ok (.aload_n 0, 1) := by decide +kernel
theorem dX3_init_13 : decode cX3_init 13 = .ok (.sipush 400, 3) := by decide +kernel
theorem dX3_init_16 : decode cX3_init 16 = .ok (.newarray .int, 2) := by decide +kernel
theorem dX3_init_18 : decode cX3_init 18 = .ok (.putfield 15, 3) := by decide +kernel
theorem dX3_init_21 : decode cX3_init 21 = .ok (.return_, 1) := by decide +kernel
theorem dX4_init_0 : decode cX4_init 0 = .ok (.aload_n 0, 1) := by decide +kernel
theorem dX4_init_1 : decode cX4_init 1 = .ok (.iload_n 1, 1) := by decide +kernel
theorem dX4_init_2 : decode cX4_init 2 = .ok (.invokespecial 3, 3) := by decide +kernel
theorem dX4_init_5 : decode cX4_init 5 = .ok (.aload_n 0, 1) := by decide +kernel
theorem dX4_init_6 : decode cX4_init 6 = .ok (.iload_n 2, 1) := by decide +kernel
theorem dX4_init_7 : decode cX4_init 7 = .ok (.putfield 9, 3) := by decide +kernel
theorem dX4_init_10 : decode cX4_init 10 = .ok (.aload_n 0, 1) := by decide +kernel
theorem dX4_init_11 : decode cX4_init 11 = .ok (.aload_n 3, 1) := by decide +kernel
theorem dX4_init_12 : decode cX4_init 12 = .ok (.putfield 15, 3) := by decide +kernel
theorem dX4_init_15 : decode cX4_init 15 = .ok (.aload_n 0, 1) := by decide +kernel
theorem dX4_init_16 : decode cX4_init 16 = .ok (.aload 4, 2) := by decide +kernel
theorem dX4_init_18 : decode cX4_init 18 = .ok (.putfield 19, 3) := by decide +kernel
theorem dX4_init_21 : decode cX4_init 21 = .ok (.aload_n 0, 1) := by decide +kernel
theorem dX4_init_22 : decode cX4_init 22 = .ok (.aload 5, 2) := by decide +kernel
theorem dX4_init_24 : decode cX4_init 24 = .ok (.putfield 22, 3) := by decide +kernel
theorem dX4_init_27 : decode cX4_init 27 = .ok (.return_, 1) := by decide +kernel
theorem dX4_write_0 : decode cX4_write 0 = .ok (.aload_n 1, 1) := by decide +kernel
theorem dX4_write_1 : decode cX4_write 1 = .ok (.getfield 25, 3) := by decide +kernel
theorem dX4_write_4 : decode cX4_write 4 = .ok (.aload_n 0, 1) := by decide +kernel
theorem dX4_write_5 : decode cX4_write 5 = .ok (.getfield 31, 3) := by decide +kernel
theorem dX4_write_8 : decode cX4_write 8 = .ok (.iconst 1, 1) := by decide +kernel
theorem dX4_write_9 : decode cX4_write 9 = .ok (.isub, 1) := by decide +kernel
theorem dX4_write_10 : decode cX4_write 10 = .ok (.aaload, 1) := by decide +kernel
theorem dX4_write_11 : decode cX4_write 11 = .ok (.astore 5, 2) := by decide +kernel
theorem dX4_write_13 : decode cX4_write 13 = .ok (.aload_n 1, 1) := by decide +kernel
theorem dX4_write_14 : decode cX4_write 14 = .ok (.getfield 34, 3) := by decide +kernel
theorem dX4_write_17 : decode cX4_write 17 = .ok (.aload_n 2, 1) := by decide +kernel
theorem dX4_write_18 : decode cX4_write 18 = .ok (.iload_n 3, 1) := by decide +kernel
theorem dX4_write_19 : decode cX4_write 19 = .ok (.iload 4, 2) := by decide +kernel
theorem dX4_write_21 : decode cX4_write 21 = .ok (.aload_n 0, 1) := by decide +kernel
theorem dX4_write_22 : decode cX4_write 22 = .ok (.getfield 9, 3) := by decide +kernel
theorem dX4_write_25 : decode cX4_write 25 = .ok (.aload 5, 2) := by decide +kernel
theorem dX4_write_27 : decode cX4_write 27 = .ok (.invokevirtual 38, 3) := by decide +kernel
theorem dX4_write_30 : decode cX4_write 30 = .ok (.aload_n 0, 1) := by decide +kernel
theorem dX4_write_31 : decode cX4_write 31 = .ok (.getfield 15, 3) := by decide +kernel
theorem dX4_write_34 : decode cX4_write 34 = .ok (.aload_n 1, 1) := by decide +kernel
theorem dX4_write_35 : decode cX4_write 35 = .ok (.aload 5, 2) := by decide +kernel
theorem dX4_write_37 : decode cX4_write 37 = .ok (.getfield 44, 3) := by decide +kernel
theorem dX4_write_40 : decode cX4_write 40 = .ok (.iconst 0, 1) := by decide +kernel
theorem dX4_write_41 : decode cX4_write 41 = .ok (.iconst 1, 1) := by decide +kernel
theorem dX4_write_42 : decode cX4_write 42 = .ok (.invokevirtual 50, 3) := by decide +kernel
theorem dX4_write_45 : decode cX4_write 45 = .ok (.ifCond .eq 46, 3) := by decide +kernel
theorem dX4_write_48 : decode cX4_write 48 = .ok (.aload_n 0, 1) := by decide +kernel
theorem dX4_write_49 : decode cX4_write 49 = .ok (.getfield 15, 3) := by decide +kernel
theorem dX4_write_52 : decode cX4_write 52 = .ok (.aload_n 1, 1) := by decide +kernel
theorem dX4_write_53 : decode cX4_write 53 = .ok (.aload 5, 2) := by decide +kernel
theorem dX4_write_55 : decode cX4_write 55 = .ok (.getfield 44, 3) := by decide +kernel
theorem dX4_write_58 : decode cX4_write 58 = .ok (.iconst 1, 1) := by decide +kernel
theorem dX4_write_59 : decode cX4_write 59 = .ok (.aload 5, 2) := by decide +kernel
theorem dX4_write_61 : decode cX4_write 61 = .ok (.getfield 44, 3) := by decide +kernel
theorem dX4_write_64 : decode cX4_write 64 = .ok (.iconst 0, 1) := by decide +kernel
theorem dX4_write_65 : decode cX4_write 65 = .ok (.iaload, 1) := by decide +kernel
theorem dX4_write_66 : decode cX4_write 66 = .ok (.invokevirtual 50, 3) := by decide +kernel
theorem dX4_write_69 : decode cX4_write 69 = .ok (.ifCond .eq 22, 3) := by decide +kernel
theorem dX4_write_72 : decode cX4_write 72 = .ok (.aload_n 0, 1) := by decide +kernel
theorem dX4_write_73 : decode cX4_write 73 = .ok (.getfield 19, 3) := by decide +kernel
theorem dX4_write_76 : decode cX4_write 76 = .ok (.aload_n 1, 1) := by decide +kernel
theorem dX4_write_77 : decode cX4_write 77 = .ok (.aload 5, 2) := by decide +kernel
theorem dX4_write_79 : decode cX4_write 79 = .ok (.getfield 54, 3) := by decide +kernel
theorem dX4_write_82 : decode cX4_write 82 = .ok (.iconst 0, 1) := by decide +kernel
theorem dX4_write_83 : decode cX4_write 83 = .ok (.iload 4, 2) := by decide +kernel
theorem dX4_write_85 : decode cX4_write 85 = .ok (.invokevirtual 50, 3) := by decide +kernel
theorem dX4_write_88 : decode cX4_write 88 = .ok (.ifCond .ne 5, 3) := by decide +kernel
theorem dX4_write_91 : decode cX4_write 91 = .ok (.iconst 0, 1) := by decide +kernel
theorem dX4_write_92 : decode cX4_write 92 = .ok (.ireturn, 1) := by decide +kernel
theorem dX4_write_93 : decode cX4_write 93 = .ok (.aload_n 2, 1) := by decide +kernel
theorem dX4_write_94 : decode cX4_write 94 = .ok (.iload_n 3, 1) := by decide +kernel
theorem dX4_write_95 : decode cX4_write 95 = .ok (.iload 4, 2) := by decide +kernel
theorem dX4_write_97 : decode cX4_write 97 = .ok (.aload 5, 2) := by decide +kernel
theorem dX4_write_99 : decode cX4_write 99 = .ok (.getfield 54, 3) := by decide +kernel
theorem dX4_write_102 : decode cX4_write 102 = .ok (.invokestatic 57, 3) := by decide +kernel
theorem dX4_write_105 : decode cX4_write 105 = .ok (.istore 6, 2) := by decide +kernel
theorem dX4_write_107 : decode cX4_write 107 = .ok (.aload_n 0, 1) := by decide +kernel
theorem dX4_write_108 : decode cX4_write 108 = .ok (.getfield 22, 3) := by decide +kernel
theorem dX4_write_111 : decode cX4_write 111 = .ok (.aload_n 1, 1) := by decide +kernel
theorem dX4_write_112 : decode cX4_write 112 = .ok (.aload 5, 2) := by decide +kernel
theorem dX4_write_114 : decode cX4_write 114 = .ok (.getfield 54, 3) := by decide +kernel
theorem dX4_write_117 : decode cX4_write 117 = .ok (.iconst 0, 1) := by decide +kernel
theorem dX4_write_118 : decode cX4_write 118 = .ok (.iload 6, 2) := by decide +kernel
theorem dX4_write_120 : decode cX4_write 120 = .ok (.invokevirtual 50, 3) := by decide +kernel
theorem dX4_write_123 : decode cX4_write 123 = .ok (.ireturn, 1) := by decide +kernel
theorem dX4_read_0 : decode cX4_read 0 = .ok (.aload_n 1, 1) := by decide +kernel
theorem dX4_read_1 : decode cX4_read 1 = .ok (.getfield 61, 3) := by decide +kernel
theorem dX4_read_4 : decode cX4_read 4 = .ok (.astore 5, 2) := by decide +kernel
theorem dX4_read_6 : decode cX4_read 6 = .ok (.aload_n 1, 1) := by decide +kernel
theorem dX4_read_7 : decode cX4_read 7 = .ok (.getfield 25, 3) := by decide +kernel
theorem dX4_read_10 : decode cX4_read 10 = .ok (.aload_n 0, 1) := by decide +kernel
theorem dX4_read_11 : decode cX4_read 11 = .ok (.getfield 31, 3) := by decide +kernel
theorem dX4_read_14 : decode cX4_read 14 = .ok (.iconst 1, 1) := by decide +kernel
theorem dX4_read_15 : decode cX4_read 15 = .ok (.isub, 1) := by decide +kernel
theorem dX4_read_16 : decode cX4_read 16 = .ok (.aaload, 1) := by decide +kernel
theorem dX4_read_17 : decode cX4_read 17 = .ok (.astore 6, 2) := by decide +kernel
theorem dX4_read_19 : decode cX4_read 19 = .ok (.aload 5, 2) := by decide +kernel
theorem dX4_read_21 : decode cX4_read 21 = .ok (.getfield 65, 3) := by decide +kernel
theorem dX4_read_24 : decode cX4_read 24 = .ok (.istore 7, 2) := by decide +kernel
theorem dX4_read_26 : decode cX4_read 26 = .ok (.aload_n 0, 1) := by decide +kernel
theorem dX4_read_27 : decode cX4_read 27 = .ok (.getfield 15, 3) := by decide +kernel
theorem dX4_read_30 : decode cX4_read 30 = .ok (.aload_n 1, 1) := by decide +kernel
theorem dX4_read_31 : decode cX4_read 31 = .ok (.aload 6, 2) := by decide +kernel
theorem dX4_read_33 : decode cX4_read 33 = .ok (.getfield 44, 3) := by decide +kernel
theorem dX4_read_36 : decode cX4_read 36 = .ok (.iconst 0, 1) := by decide +kernel
theorem dX4_read_37 : decode cX4_read 37 = .ok (.iconst 1, 1) := by decide +kernel
theorem dX4_read_38 : decode cX4_read 38 = .ok (.invokevirtual 70, 3) := by decide +kernel
theorem dX4_read_41 : decode cX4_read 41 = .ok (.ifCond .ne 5, 3) := by decide +kernel
theorem dX4_read_44 : decode cX4_read 44 = .ok (.iconst 0, 1) := by decide +kernel
theorem dX4_read_45 : decode cX4_read 45 = .ok (.ireturn, 1) := by decide +kernel
theorem dX4_read_46 : decode cX4_read 46 = .ok (.aload 6, 2) := by decide +kernel
theorem dX4_read_48 : decode cX4_read 48 = .ok (.getfield 44, 3) := by decide +kernel
theorem dX4_read_51 : decode cX4_read 51 = .ok (.iconst 0, 1) := by decide +kernel
theorem dX4_read_52 : decode cX4_read 52 = .ok (.iaload, 1) := by decide +kernel
theorem dX4_read_53 : decode cX4_read 53 = .ok (.istore 8, 2) := by decide +kernel
theorem dX4_read_55 : decode cX4_read 55 = .ok (.iload 8, 2) := by decide +kernel
theorem dX4_read_57 : decode cX4_read 57 = .ok (.ifCond .lt 12, 3) := by decide +kernel
theorem dX4_read_60 : decode cX4_read 60 = .ok (.iload 8, 2) := by decide +kernel
theorem dX4_read_62 : decode cX4_read 62 = .ok (.aload_n 0, 1) := by decide +kernel
theorem dX4_read_63 : decode cX4_read 63 = .ok (.getfield 9, 3) := by decide +kernel
theorem dX4_read_66 : decode cX4_read 66 = .ok (.if_icmp .le 12, 3) := by decide +kernel
theorem dX4_read_69 : decode cX4_read 69 = .ok (.aload 5, 2) := by decide +kernel
theorem dX4_read_71 : decode cX4_read 71 = .ok (.iconst 3, 1) := by decide +kernel
theorem dX4_read_72 : decode cX4_read 72 = .ok (.iload 7, 2) := by decide +kernel
theorem dX4_read_74 : decode cX4_read 74 = .ok (.invokevirtual 73, 3) := by decide +kernel
theorem dX4_read_77 : decode cX4_read 77 = .ok (.ireturn, 1) := by decide +kernel
theorem dX4_read_78 : decode cX4_read 78 = .ok (.aload_n 0, 1) := by decide +kernel
theorem dX4_read_79 : decode cX4_read 79 = .ok (.getfield 15, 3) := by decide +kernel
theorem dX4_read_82 : decode cX4_read 82 = .ok (.aload_n 1, 1) := by decide +kernel
theorem dX4_read_83 : decode cX4_read 83 = .ok (.aload 6, 2) := by decide +kernel
theorem dX4_read_85 : decode cX4_read 85 = .ok (.getfield 44, 3) := by decide +kernel
theorem dX4_read_88 : decode cX4_read 88 = .ok (.iconst 1, 1) := by decide +kernel
theorem dX4_read_89 : decode cX4_read 89 = .ok (.iload 8, 2) := by decide +kernel
theorem dX4_read_91 : decode cX4_read 91 = .ok (.invokevirtual 70, 3) := by decide +kernel
theorem dX4_read_94 : decode cX4_read 94 = .ok (.ifCond .ne 5, 3) := by decide +kernel
theorem dX4_read_97 : decode cX4_read 97 = .ok (.iconst 0, 1) := by decide +kernel
theorem dX4_read_98 : decode cX4_read 98 = .ok (.ireturn, 1) := by decide +kernel
theorem dX4_read_99 : decode cX4_read 99 = .ok (.aload 5, 2) := by decide +kernel
theorem dX4_read_101 : decode cX4_read 101 = .ok (.getfield 65, 3) := by decide +kernel
theorem dX4_read_104 : decode cX4_read 104 = .ok (.istore 7, 2) := by decide +kernel
theorem dX4_read_106 : decode cX4_read 106 = .ok (.aload_n 0, 1) := by decide +kernel
theorem dX4_read_107 : decode cX4_read 107 = .ok (.getfield 19, 3) := by decide +kernel
theorem dX4_read_110 : decode cX4_read 110 = .ok (.aload_n 1, 1) := by decide +kernel
theorem dX4_read_111 : decode cX4_read 111 = .ok (.aload_n 2, 1) := by decide +kernel
theorem dX4_read_112 : decode cX4_read 112 = .ok (.iload_n 3, 1) := by decide +kernel
theorem dX4_read_113 : decode cX4_read 113 = .ok (.iload 4, 2) := by decide +kernel
theorem dX4_read_115 : decode cX4_read 115 = .ok (.invokevirtual 70, 3) := by decide +kernel
theorem dX4_read_118 : decode cX4_read 118 = .ok (.ifCond .ne 5, 3) := by decide +kernel
theorem dX4_read_121 : decode cX4_read 121 = .ok (.iconst 0, 1) := by decide +kernel
theorem dX4_read_122 : decode cX4_read 122 = .ok (.ireturn, 1) := by decide +kernel
theorem dX4_read_123 : decode cX4_read 123 = .ok (.aload_n 2, 1) := by decide +kernel
theorem dX4_read_124 : decode cX4_read 124 = .ok (.iload_n 3, 1) := by decide +kernel
theorem dX4_read_125 : decode cX4_read 125 = .ok (.iload 4, 2) := by decide +kernel
theorem dX4_read_127 : decode cX4_read 127 = .ok (.iload 8, 2) := by decide +kernel
theorem dX4_read_129 : decode cX4_read 129 = .ok (.invokestatic 77, 3) := by decide +kernel
theorem dX4_read_132 : decode cX4_read 132 = .ok (.istore 9, 2) := by decide +kernel
theorem dX4_read_134 : decode cX4_read 134 = .ok (.iload 9, 2) := by decide +kernel
theorem dX4_read_136 : decode cX4_read 136 = .ok (.iconst (-1), 1) := by decide +kernel
theorem dX4_read_137 : decode cX4_read 137 = .ok (.if_icmp .ne 12, 3) := by decide +kernel
theorem dX4_read_140 : decode cX4_read 140 = .ok (.aload 5, 2) := by decide +kernel
theorem dX4_read_142 : decode cX4_read 142 = .ok (.iconst 3, 1) := by decide +kernel
theorem dX4_read_143 : decode cX4_read 143 = .ok (.iload 7, 2) := by decide +kernel
theorem dX4_read_145 : decode cX4_read 145 = .ok (.invokevirtual 73, 3) := by decide +kernel
theorem dX4_read_148 : decode cX4_read 148 = .ok (.ireturn, 1) := by decide +kernel
theorem dX4_read_149 : decode cX4_read 149 = .ok (.aload_n 0, 1) := by decide +kernel
theorem dX4_read_150 : decode cX4_read 150 = .ok (.getfield 22, 3) := by decide +kernel
theorem dX4_read_153 : decode cX4_read 153 = .ok (.aload_n 1, 1) := by decide +kernel
theorem dX4_read_154 : decode cX4_read 154 = .ok (.aload 6, 2) := by decide +kernel
theorem dX4_read_156 : decode cX4_read 156 = .ok (.getfield 54, 3) := by decide +kernel
theorem dX4_read_159 : decode cX4_read 159 = .ok (.iconst 0, 1) := by decide +kernel
theorem dX4_read_160 : decode cX4_read 160 = .ok (.iload 9, 2) := by decide +kernel
theorem dX4_read_162 : decode cX4_read 162 = .ok (.invokevirtual 70, 3) := by decide +kernel
theorem dX4_read_165 : decode cX4_read 165 = .ok (.ifCond .ne 5, 3) := by decide +kernel
theorem dX4_read_168 : decode cX4_read 168 = .ok (.iconst 0, 1) := by decide +kernel
theorem dX4_read_169 : decode cX4_read 169 = .ok (.ireturn, 1) := by decide +kernel
theorem dX4_read_170 : decode cX4_read 170 = .ok (.aload_n 2, 1) := by decide +kernel
theorem dX4_read_171 : decode cX4_read 171 = .ok (.iload_n 3, 1) := by decide +kernel
theorem dX4_read_172 : decode cX4_read 172 = .ok (.iload 4, 2) := by decide +kernel
theorem dX4_read_174 : decode cX4_read 174 = .ok (.aload 6, 2) := by decide +kernel
theorem dX4_read_176 : decode cX4_read 176 = .ok (.invokestatic 81, 3) := by decide +kernel
theorem dX4_read_179 : decode cX4_read 179 = .ok (.iconst 1, 1) := by decide +kernel
theorem dX4_read_180 : decode cX4_read 180 = .ok (.ireturn, 1) := by decide +kernel
theorem dX4_gatherOthers_0 : decode cX4_gatherOthers 0 = .ok (.iconst 0, 1) := by decide +kernel
theorem dX4_gatherOthers_1 : decode cX4_gatherOthers 1 = .ok (.istore 4, 2) := by decide +kernel
theorem dX4_gatherOthers_3 : decode cX4_gatherOthers 3 = .ok (.iconst 0, 1) := by decide +kernel
theorem dX4_gatherOthers_4 : decode cX4_gatherOthers 4 = .ok (.istore 5, 2) := by decide +kernel
theorem dX4_gatherOthers_6 : decode cX4_gatherOthers 6 = .ok (.iload 5, 2) := by decide +kernel
theorem dX4_gatherOthers_8 : decode cX4_gatherOthers 8 = .ok (.iload_n 2, 1) := by decide +kernel
theorem dX4_gatherOthers_9 : decode cX4_gatherOthers 9 = .ok (.if_icmp .ge 29, 3) := by decide +kernel
theorem dX4_gatherOthers_12 : decode cX4_gatherOthers 12 = .ok (.aload_n 3, 1) := by decide +kernel
theorem dX4_gatherOthers_13 : decode cX4_gatherOthers 13 = .ok (.iload 5, 2) := by decide +kernel
theorem dX4_gatherOthers_15 : decode cX4_gatherOthers 15 = .ok (.iaload, 1) := by decide +kernel
theorem dX4_gatherOthers_16 : decode cX4_gatherOthers 16 = .ok (.ifCond .ne 16, 3) := by decide +kernel
theorem dX4_gatherOthers_19 : decode cX4_gatherOthers 19 = .ok (.aload_n 3, 1) := by decide +kernel
theorem dX4_gatherOthers_20 : decode cX4_gatherOthers 20 = .ok (.iload 4, 2) := by decide +kernel
theorem dX4_gatherOthers_22 : decode cX4_gatherOthers 22 = .ok (.aload_n 0, 1) := by decide +kernel
theorem dX4_gatherOthers_23 : decode cX4_gatherOthers 23 = .ok (.iload_n 1, 1) := by decide +kernel
theorem dX4_gatherOthers_24 : decode cX4_gatherOthers 24 = .ok (.iload 5, 2) := by decide +kernel
theorem dX4_gatherOthers_26 : decode cX4_gatherOthers 26 = .ok (.iadd, 1) := by decide +kernel
theorem dX4_gatherOthers_27 : decode cX4_gatherOthers 27 = .ok (.iaload, 1) := by decide +kernel
theorem dX4_gatherOthers_28 : decode cX4_gatherOthers 28 = .ok (.iastore, 1) := by decide +kernel
theorem dX4_gatherOthers_29 : decode cX4_gatherOthers 29 = .ok (.iinc 4 1, 3) := by decide +kernel
theorem dX4_gatherOthers_32 : decode cX4_gatherOthers 32 = .ok (.iinc 5 1, 3) := by decide +kernel
theorem dX4_gatherOthers_35 : decode cX4_gatherOthers 35 = .ok (.goto (-29), 3) := by decide +kernel
theorem dX4_gatherOthers_38 : decode cX4_gatherOthers 38 = .ok (.iload 4, 2) := by decide +kernel
theorem dX4_gatherOthers_40 : decode cX4_gatherOthers 40 = .ok (.ireturn, 1) := by decide +kernel
theorem dX4_countOthers_0 : decode cX4_countOthers 0 = .ok (.iconst 0, 1) := by decide +kernel
theorem dX4_countOthers_1 : decode cX4_countOthers 1 = .ok (.istore 4, 2) := by decide +kernel
theorem dX4_countOthers_3 : decode cX4_countOthers 3 = .ok (.iload_n 1, 1) := by decide +kernel
theorem dX4_countOthers_4 : decode cX4_countOthers 4 = .ok (.istore 5, 2) := by decide +kernel
theorem dX4_countOthers_6 : decode cX4_countOthers 6 = .ok (.iload 5, 2) := by decide +kernel
theorem dX4_countOthers_8 : decode cX4_countOthers 8 = .ok (.iload_n 1, 1) := by decide +kernel
theorem dX4_countOthers_9 : decode cX4_countOthers 9 = .ok (.iload_n 2, 1) := by decide +kernel
theorem dX4_countOthers_10 : decode cX4_countOthers 10 = .ok (.iadd, 1) := by decide +kernel
theorem dX4_countOthers_11 : decode cX4_countOthers 11 = .ok (.if_icmp .ge 36, 3) := by decide +kernel
theorem dX4_countOthers_14 : decode cX4_countOthers 14 = .ok (.aload_n 0, 1) := by decide +kernel
theorem dX4_countOthers_15 : decode cX4_countOthers 15 = .ok (.iload 5, 2) := by decide +kernel
theorem dX4_countOthers_17 : decode cX4_countOthers 17 = .ok (.iaload, 1) := by decide +kernel
theorem dX4_countOthers_18 : decode cX4_countOthers 18 = .ok (.ifCond .lt 11, 3) := by decide +kernel
theorem dX4_countOthers_21 : decode cX4_countOthers 21 = .ok (.aload_n 0, 1) := by decide +kernel
theorem dX4_countOthers_22 : decode cX4_countOthers 22 = .ok (.iload 5, 2) := by decide +kernel
theorem dX4_countOthers_24 : decode cX4_countOthers 24 = .ok (.iaload, 1) := by decide +kernel
theorem dX4_countOthers_25 : decode cX4_countOthers 25 = .ok (.iload_n 3, 1) := by decide +kernel
theorem dX4_countOthers_26 : decode cX4_countOthers 26 = .ok (.if_icmp .le 5, 3) := by decide +kernel
theorem dX4_countOthers_29 : decode cX4_countOthers 29 = .ok (.iconst (-1), 1) := by decide +kernel
theorem dX4_countOthers_30 : decode cX4_countOthers 30 = .ok (.ireturn, 1) := by decide +kernel
theorem dX4_countOthers_31 : decode cX4_countOthers 31 = .ok (.aload_n 0, 1) := by decide +kernel
theorem dX4_countOthers_32 : decode cX4_countOthers 32 = .ok (.iload 5, 2) := by decide +kernel
theorem dX4_countOthers_34 : decode cX4_countOthers 34 = .ok (.iaload, 1) := by decide +kernel
theorem dX4_countOthers_35 : decode cX4_countOthers 35 = .ok (.ifCond .ne 6, 3) := by decide +kernel
theorem dX4_countOthers_38 : decode cX4_countOthers 38 = .ok (.iinc 4 1, 3) := by decide +kernel
theorem dX4_countOthers_41 : decode cX4_countOthers 41 = .ok (.iinc 5 1, 3) := by decide +kernel
theorem dX4_countOthers_44 : decode cX4_countOthers 44 = .ok (.goto (-38), 3) := by decide +kernel
theorem dX4_countOthers_47 : decode cX4_countOthers 47 = .ok (.iload 4, 2) := by decide +kernel
theorem dX4_countOthers_49 : decode cX4_countOthers 49 = .ok (.ireturn, 1) := by decide +kernel
theorem dX4_replaceTokens_0 : decode cX4_replaceTokens 0 = .ok (.iconst 0, 1) := by decide +kernel
theorem dX4_replaceTokens_1 : decode cX4_replaceTokens 1 = .ok (.istore 4, 2) := by decide +kernel
theorem dX4_replaceTokens_3 : decode cX4_replaceTokens 3 = .ok (.iload_n 1, 1) := by decide +kernel
theorem dX4_replaceTokens_4 : decode cX4_replaceTokens 4 = .ok (.istore 5, 2) := by decide +kernel
theorem dX4_replaceTokens_6 : decode cX4_replaceTokens 6 = .ok (.iload 5, 2) := by decide +kernel
theorem dX4_replaceTokens_8 : decode cX4_replaceTokens 8 = .ok (.iload_n 1, 1) := by decide +kernel
theorem dX4_replaceTokens_9 : decode cX4_replaceTokens 9 = .ok (.iload_n 2, 1) := by decide +kernel
theorem dX4_replaceTokens_10 : decode cX4_replaceTokens 10 = .ok (.iadd, 1) := by decide +kernel
theorem dX4_replaceTokens_11 : decode cX4_replaceTokens 11 = .ok (.if_icmp .ge 46, 3) := by decide +kernel
theorem dX4_replaceTokens_14 : decode cX4_replaceTokens 14 = .ok (.aload_n 0, 1) := by decide +kernel
theorem dX4_replaceTokens_15 : decode cX4_replaceTokens 15 = .ok (.iload 5, 2) := by decide +kernel
theorem dX4_replaceTokens_17 : decode cX4_replaceTokens 17 = .ok (.iaload, 1) := by decide +kernel
theorem dX4_replaceTokens_18 : decode cX4_replaceTokens 18 = .ok (.ifCond .ne 20, 3) := by decide +kernel
theorem dX4_replaceTokens_21 : decode cX4_replaceTokens 21 = .ok (.aload_n 0, 1) := by decide +kernel
theorem dX4_replaceTokens_22 : decode cX4_replaceTokens 22 = .ok (.iload 5, 2) := by decide +kernel
theorem dX4_replaceTokens_24 : decode cX4_replaceTokens 24 = .ok (.aload_n 3, 1) := by decide +kernel
theorem dX4_replaceTokens_25 : decode cX4_replaceTokens 25 = .ok (.getfield 54, 3) := by decide +kernel
theorem dX4_replaceTokens_28 : decode cX4_replaceTokens 28 = .ok (.iload 4, 2) := by decide +kernel
theorem dX4_replaceTokens_30 : decode cX4_replaceTokens 30 = .ok (.iaload, 1) := by decide +kernel
theorem dX4_replaceTokens_31 : decode cX4_replaceTokens 31 = .ok (.iastore, 1) := by decide +kernel
theorem dX4_replaceTokens_32 : decode cX4_replaceTokens 32 = .ok (.iinc 4 1, 3) := by decide +kernel
theorem dX4_replaceTokens_35 : decode cX4_replaceTokens 35 = .ok (.goto 16, 3) := by decide +kernel
theorem dX4_replaceTokens_38 : decode cX4_replaceTokens 38 = .ok (.aload_n 0, 1) := by decide +kernel
theorem dX4_replaceTokens_39 : decode cX4_replaceTokens 39 = .ok (.iload 5, 2) := by decide +kernel
theorem dX4_replaceTokens_41 : decode cX4_replaceTokens 41 = .ok (.aload_n 3, 1) := by decide +kernel
theorem dX4_replaceTokens_42 : decode cX4_replaceTokens 42 = .ok (.getfield 44, 3) := by decide +kernel
theorem dX4_replaceTokens_45 : decode cX4_replaceTokens 45 = .ok (.aload_n 0, 1) := by decide +kernel
theorem dX4_replaceTokens_46 : decode cX4_replaceTokens 46 = .ok (.iload 5, 2) := by decide +kernel
theorem dX4_replaceTokens_48 : decode cX4_replaceTokens 48 = .ok (.iaload, 1) := by decide +kernel
theorem dX4_replaceTokens_49 : decode cX4_replaceTokens 49 = .ok (.iaload, 1) := by decide +kernel
theorem dX4_replaceTokens_50 : decode cX4_replaceTokens 50 = .ok (.iastore, 1) := by decide +kernel
theorem dX4_replaceTokens_51 : decode cX4_replaceTokens 51 = .ok (.iinc 5 1, 3) := by decide +kernel
theorem dX4_replaceTokens_54 : decode cX4_replaceTokens 54 = .ok (.goto (-48), 3) := by decide +kernel
theorem dX4_replaceTokens_57 : decode cX4_replaceTokens 57 = .ok (.return_, 1) := by decide +kernel
theorem dX5_init_0 : decode cX5_init 0 = .ok (.aload_n 0, 1) := by decide +kernel
theorem dX5_init_1 : decode cX5_init 1 = .ok (.iload_n 1, 1) := by decide +kernel
theorem dX5_init_2 : decode cX5_init 2 = .ok (.invokespecial 1, 3) := by decide +kernel
theorem dX5_init_5 : decode cX5_init 5 = .ok (.aload_n 0, 1) := by decide +kernel
theorem dX5_init_6 : decode cX5_init 6 = .ok (.iload_n 2, 1) := by decide +kernel
theorem dX5_init_7 : decode cX5_init 7 = .ok (.putfield 7, 3) := by decide +kernel
theorem dX5_init_10 : decode cX5_init 10 = .ok (.aload_n 0, 1) := by decide +kernel
theorem dX5_init_11 : decode cX5_init 11 = .ok (.aload_n 3, 1) := by decide +kernel
theorem dX5_init_12 : decode cX5_init 12 = .ok (.putfield 13, 3) := by decide +kernel
theorem dX5_init_15 : decode cX5_init 15 = .ok (.aload_n 0, 1) := by decide +kernel
theorem dX5_init_16 : decode cX5_init 16 = .ok (.aload 4, 2) := by decide +kernel
theorem dX5_init_18 : decode cX5_init 18 = .ok (.putfield 17, 3) := by decide +kernel
theorem dX5_init_21 : decode cX5_init 21 = .ok (.return_, 1) := by decide +kernel
theorem dX5_write_0 : decode cX5_write 0 = .ok (.aload_n 0, 1) := by decide +kernel
theorem dX5_write_1 : decode cX5_write 1 = .ok (.getfield 7, 3) := by decide +kernel
theorem dX5_write_4 : decode cX5_write 4 = .ok (.iload 4, 2) := by decide +kernel
theorem dX5_write_6 : decode cX5_write 6 = .ok (.invokestatic 20, 3) := by decide +kernel
theorem dX5_write_9 : decode cX5_write 9 = .ok (.istore 5, 2) := by decide +kernel
theorem dX5_write_11 : decode cX5_write 11 = .ok (.aload_n 0, 1) := by decide +kernel
theorem dX5_write_12 : decode cX5_write 12 = .ok (.getfield 13, 3) := by decide +kernel
theorem dX5_write_15 : decode cX5_write 15 = .ok (.aload_n 1, 1) := by decide +kernel
theorem dX5_write_16 : decode cX5_write 16 = .ok (.aload_n 2, 1) := by decide +kernel
theorem dX5_write_17 : decode cX5_write 17 = .ok (.iload_n 3, 1) := by decide +kernel
theorem dX5_write_18 : decode cX5_write 18 = .ok (.iload 5, 2) := by decide +kernel
theorem dX5_write_20 : decode cX5_write 20 = .ok (.invokevirtual 26, 3) := by decide +kernel
theorem dX5_write_23 : decode cX5_write 23 = .ok (.ifCond .eq 28, 3) := by decide +kernel
theorem dX5_write_26 : decode cX5_write 26 = .ok (.aload_n 0, 1) := by decide +kernel
theorem dX5_write_27 : decode cX5_write 27 = .ok (.getfield 17, 3) := by decide +kernel
theorem dX5_write_30 : decode cX5_write 30 = .ok (.aload_n 1, 1) := by decide +kernel
theorem dX5_write_31 : decode cX5_write 31 = .ok (.aload_n 2, 1) := by decide +kernel
theorem dX5_write_32 : decode cX5_write 32 = .ok (.iload_n 3, 1) := by decide +kernel
theorem dX5_write_33 : decode cX5_write 33 = .ok (.iload 5, 2) := by decide +kernel
theorem dX5_write_35 : decode cX5_write 35 = .ok (.iadd, 1) := by decide +kernel
theorem dX5_write_36 : decode cX5_write 36 = .ok (.iload 4, 2) := by decide +kernel
theorem dX5_write_38 : decode cX5_write 38 = .ok (.iload 5, 2) := by decide +kernel
theorem dX5_write_40 : decode cX5_write 40 = .ok (.isub, 1) := by decide +kernel
theorem dX5_write_41 : decode cX5_write 41 = .ok (.invokevirtual 26, 3) := by decide +kernel
theorem dX5_write_44 : decode cX5_write 44 = .ok (.ifCond .eq 7, 3) := by decide +kernel
theorem dX5_write_47 : decode cX5_write 47 = .ok (.iconst 1, 1) := by decide +kernel
theorem dX5_write_48 : decode cX5_write 48 = .ok (.goto 4, 3) := by decide +kernel
theorem dX5_write_51 : decode cX5_write 51 = .ok (.iconst 0, 1) := by decide +kernel
theorem dX5_write_52 : decode cX5_write 52 = .ok (.ireturn, 1) := by decide +kernel
theorem dX5_read_0 : decode cX5_read 0 = .ok (.aload_n 0, 1) := by decide +kernel
theorem dX5_read_1 : decode cX5_read 1 = .ok (.getfield 7, 3) := by decide +kernel
theorem dX5_read_4 : decode cX5_read 4 = .ok (.iload 4, 2) := by decide +kernel
theorem dX5_read_6 : decode cX5_read 6 = .ok (.invokestatic 20, 3) := by decide +kernel
theorem dX5_read_9 : decode cX5_read 9 = .ok (.istore 5, 2) := by decide +kernel
theorem dX5_read_11 : decode cX5_read 11 = .ok (.aload_n 0, 1) := by decide +kernel
theorem dX5_read_12 : decode cX5_read 12 = .ok (.getfield 13, 3) := by decide +kernel
theorem dX5_read_15 : decode cX5_read 15 = .ok (.aload_n 1, 1) := by decide +kernel
theorem dX5_read_16 : decode cX5_read 16 = .ok (.aload_n 2, 1) := by decide +kernel
theorem dX5_read_17 : decode cX5_read 17 = .ok (.iload_n 3, 1) := by decide +kernel
theorem dX5_read_18 : decode cX5_read 18 = .ok (.iload 5, 2) := by decide +kernel
theorem dX5_read_20 : decode cX5_read 20 = .ok (.invokevirtual 30, 3) := by decide +kernel
theorem dX5_read_23 : decode cX5_read 23 = .ok (.ifCond .eq 28, 3) := by decide +kernel
theorem dX5_read_26 : decode cX5_read 26 = .ok (.aload_n 0, 1) := by decide +kernel
theorem dX5_read_27 : decode cX5_read 27 = .ok (.getfield 17, 3) := by decide +kernel
theorem dX5_read_30 : decode cX5_read 30 = .ok (.aload_n 1, 1) := by decide +kernel
theorem dX5_read_31 : decode cX5_read 31 = .ok (.aload_n 2, 1) := by decide +kernel
theorem dX5_read_32 : decode cX5_read 32 = .ok (.iload_n 3, 1) := by decide +kernel
theorem dX5_read_33 : decode cX5_read 33 = .ok (.iload 5, 2) := by decide +kernel
theorem dX5_read_35 : decode cX5_read 35 = .ok (.iadd, 1) := by decide +kernel
theorem dX5_read_36 : decode cX5_read 36 = .ok (.iload 4, 2) := by decide +kernel
theorem dX5_read_38 : decode cX5_read 38 = .ok (.iload 5, 2) := by decide +kernel
theorem dX5_read_40 : decode cX5_read 40 = .ok (.isub, 1) := by decide +kernel
theorem dX5_read_41 : decode cX5_read 41 = .ok (.invokevirtual 30, 3) := by decide +kernel
theorem dX5_read_44 : decode cX5_read 44 = .ok (.ifCond .eq 7, 3) := by decide +kernel
theorem dX5_read_47 : decode cX5_read 47 = .ok (.iconst 1, 1) := by decide +kernel
theorem dX5_read_48 : decode cX5_read 48 = .ok (.goto 4, 3) := by decide +kernel
theorem dX5_read_51 : decode cX5_read 51 = .ok (.iconst 0, 1) := by decide +kernel
theorem dX5_read_52 : decode cX5_read 52 = .ok (.ireturn, 1) := by decide +kernel
theorem dX6_init_0 : decode cX6_init 0 = .ok (.aload_n 0, 1) := by decide +kernel
theorem dX6_init_1 : decode cX6_init 1 = .ok (.invokespecial 3, 3) := by decide +kernel
theorem dX6_init_4 : decode cX6_init 4 = .ok (.aload_n 0, 1) := by decide +kernel
theorem dX6_init_5 : decode cX6_init 5 = .ok (.sipush 401, 3) := by decide +kernel
theorem dX6_init_8 : decode cX6_init 8 = .ok (.newarray .int, 2) := by decide +kernel
theorem dX6_init_10 : decode cX6_init 10 = .ok (.putfield 9, 3) := by decide +kernel
theorem dX6_init_13 : decode cX6_init 13 = .ok (.aload_n 0, 1) := by decide +kernel
theorem dX6_init_14 : decode cX6_init 14 = .ok (.sipush 401, 3) := by decide +kernel
theorem dX6_init_17 : decode cX6_init 17 = .ok (.newarray .int, 2) := by decide +kernel
theorem dX6_init_19 : decode cX6_init 19 = .ok (.putfield 15, 3) := by decide +kernel
theorem dX6_init_22 : decode cX6_init 22 = .ok (.aload_n 0, 1) := by decide +kernel
theorem dX6_init_23 : decode cX6_init 23 = .ok (.iconst 0, 1) := by decide +kernel
theorem dX6_init_24 : decode cX6_init 24 = .ok (.putfield 18, 3) := by decide +kernel
theorem dX6_init_27 : decode cX6_init 27 = .ok (.aload_n 0, 1) := by decide +kernel
theorem dX6_init_28 : decode cX6_init 28 = .ok (.iconst (-1), 1) := by decide +kernel
theorem dX6_init_29 : decode cX6_init 29 = .ok (.putfield 22, 3) := by decide +kernel
theorem dX6_init_32 : decode cX6_init 32 = .ok (.aload_n 0, 1) := by decide +kernel
theorem dX6_init_33 : decode cX6_init 33 = .ok (.iconst (-1), 1) := by decide +kernel
theorem dX6_init_34 : decode cX6_init 34 = .ok (.putfield 25, 3) := by decide +kernel
theorem dX6_init_37 : decode cX6_init 37 = .ok (.aload_n 0, 1) := by decide +kernel
theorem dX6_init_38 : decode cX6_init 38 = .ok (.iconst (-1), 1) := by decide +kernel
theorem dX6_init_39 : decode cX6_init 39 = .ok (.putfield 28, 3) := by decide +kernel
theorem dX6_init_42 : decode cX6_init 42 = .ok (.return_, 1) := by decide +kernel
theorem dX6_startRow_0 : decode cX6_startRow 0 = .ok (.aload_n 0, 1) := by decide +kernel
theorem dX6_startRow_1 : decode cX6_startRow 1 = .ok (.iload_n 1, 1) := by decide +kernel
theorem dX6_startRow_2 : decode cX6_startRow 2 = .ok (.putfield 18, 3) := by decide +kernel
theorem dX6_startRow_5 : decode cX6_startRow 5 = .ok (.iconst 0, 1) := by decide +kernel
theorem dX6_startRow_6 : decode cX6_startRow 6 = .ok (.istore_n 2, 1) := by decide +kernel
theorem dX6_startRow_7 : decode cX6_startRow 7 = .ok (.iload_n 2, 1) := by decide +kernel
theorem dX6_startRow_8 : decode cX6_startRow 8 = .ok (.aload_n 0, 1) := by decide +kernel
theorem dX6_startRow_9 : decode cX6_startRow 9 = .ok (.getfield 18, 3) := by decide +kernel
theorem dX6_startRow_12 : decode cX6_startRow 12 = .ok (.if_icmp .gt 25, 3) := by decide +kernel
theorem dX6_startRow_15 : decode cX6_startRow 15 = .ok (.aload_n 0, 1) := by decide +kernel
theorem dX6_startRow_16 : decode cX6_startRow 16 = .ok (.getfield 9, 3) := by decide +kernel
theorem dX6_startRow_19 : decode cX6_startRow 19 = .ok (.iload_n 2, 1) := by decide +kernel
theorem dX6_startRow_20 : decode cX6_startRow 20 = .ok (.ldc 31, 2) := by decide +kernel
theorem dX6_startRow_22 : decode cX6_startRow 22 = .ok (.iastore, 1) := by decide +kernel
theorem dX6_startRow_23 : decode cX6_startRow 23 = .ok (.aload_n 0, 1) := by decide +kernel
theorem dX6_startRow_24 : decode cX6_startRow 24 = .ok (.getfield 15, 3) := by decide +kernel
theorem dX6_startRow_27 : decode cX6_startRow 27 = .ok (.iload_n 2, 1) := by decide +kernel
theorem dX6_startRow_28 : decode cX6_startRow 28 = .ok (.ldc 31, 2) := by decide +kernel
theorem dX6_startRow_30 : decode cX6_startRow 30 = .ok (.iastore, 1) := by decide +kernel
theorem dX6_startRow_31 : decode cX6_startRow 31 = .ok (.iinc 2 1, 3) := by decide +kernel
theorem dX6_startRow_34 : decode cX6_startRow 34 = .ok (.goto (-27), 3) := by decide +kernel
theorem dX6_startRow_37 : decode cX6_startRow 37 = .ok (.aload_n 0, 1) := by decide +kernel
theorem dX6_startRow_38 : decode cX6_startRow 38 = .ok (.iconst (-1), 1) := by decide +kernel
theorem dX6_startRow_39 : decode cX6_startRow 39 = .ok (.putfield 22, 3) := by decide +kernel
theorem dX6_startRow_42 : decode cX6_startRow 42 = .ok (.aload_n 0, 1) := by decide +kernel
theorem dX6_startRow_43 : decode cX6_startRow 43 = .ok (.iconst (-1), 1) := by decide +kernel
theorem dX6_startRow_44 : decode cX6_startRow 44 = .ok (.putfield 25, 3) := by decide +kernel
theorem dX6_startRow_47 : decode cX6_startRow 47 = .ok (.aload_n 0, 1) := by decide +kernel
theorem dX6_startRow_48 : decode cX6_startRow 48 = .ok (.iconst (-1), 1) := by decide +kernel
theorem dX6_startRow_49 : decode cX6_startRow 49 = .ok (.putfield 28, 3) := by decide +kernel
theorem dX6_startRow_52 : decode cX6_startRow 52 = .ok (.return_, 1) := by decide +kernel
theorem dX6_weighHeads_0 : decode cX6_weighHeads 0 = .ok (.iconst 0, 1) := by decide +kernel
theorem dX6_weighHeads_1 : decode cX6_weighHeads 1 = .ok (.istore 4, 2) := by decide +kernel
theorem dX6_weighHeads_3 : decode cX6_weighHeads 3 = .ok (.iconst 0, 1) := by decide +kernel
theorem dX6_weighHeads_4 : decode cX6_weighHeads 4 = .ok (.istore 5, 2) := by decide +kernel
theorem dX6_weighHeads_6 : decode cX6_weighHeads 6 = .ok (.aload_n 0, 1) := by decide +kernel
theorem dX6_weighHeads_7 : decode cX6_weighHeads 7 = .ok (.getfield 9, 3) := by decide +kernel
theorem dX6_weighHeads_10 : decode cX6_weighHeads 10 = .ok (.iconst 0, 1) := by decide +kernel
theorem dX6_weighHeads_11 : decode cX6_weighHeads 11 = .ok (.iload 4, 2) := by decide +kernel
theorem dX6_weighHeads_13 : decode cX6_weighHeads 13 = .ok (.iload_n 2, 1) := by decide +kernel
theorem dX6_weighHeads_14 : decode cX6_weighHeads 14 = .ok (.invokestatic 32, 3) := by decide +kernel
theorem dX6_weighHeads_17 : decode cX6_weighHeads 17 = .ok (.iconst 1, 1) := by decide +kernel
theorem dX6_weighHeads_18 : decode cX6_weighHeads 18 = .ok (.istore 6, 2) := by decide +kernel
theorem dX6_weighHeads_20 : decode cX6_weighHeads 20 = .ok (.iload 6, 2) := by decide +kernel
theorem dX6_weighHeads_22 : decode cX6_weighHeads 22 = .ok (.aload_n 0, 1) := by decide +kernel
theorem dX6_weighHeads_23 : decode cX6_weighHeads 23 = .ok (.getfield 18, 3) := by decide +kernel
theorem dX6_weighHeads_26 : decode cX6_weighHeads 26 = .ok (.if_icmp .gt 54, 3) := by decide +kernel
theorem dX6_weighHeads_29 : decode cX6_weighHeads 29 = .ok (.iload 4, 2) := by decide +kernel
theorem dX6_weighHeads_31 : decode cX6_weighHeads 31 = .ok (.iconst (-1), 1) := by decide +kernel
theorem dX6_weighHeads_32 : decode cX6_weighHeads 32 = .ok (.if_icmp .eq 48, 3) := by decide +kernel
theorem dX6_weighHeads_35 : decode cX6_weighHeads 35 = .ok (.iload 4, 2) := by decide +kernel
theorem dX6_weighHeads_37 : decode cX6_weighHeads 37 = .ok (.aload_n 1, 1) := by decide +kernel
theorem dX6_weighHeads_38 : decode cX6_weighHeads 38 = .ok (.aload_n 3, 1) := by decide +kernel
theorem dX6_weighHeads_39 : decode cX6_weighHeads 39 = .ok (.iload 6, 2) := by decide +kernel
theorem dX6_weighHeads_41 : decode cX6_weighHeads 41 = .ok (.iconst 1, 1) := by decide +kernel
theorem dX6_weighHeads_42 : decode cX6_weighHeads 42 = .ok (.isub, 1) := by decide +kernel
theorem dX6_weighHeads_43 : decode cX6_weighHeads 43 = .ok (.iaload, 1) := by decide +kernel
theorem dX6_weighHeads_44 : decode cX6_weighHeads 44 = .ok (.iload 5, 2) := by decide +kernel
theorem dX6_weighHeads_46 : decode cX6_weighHeads 46 = .ok (.invokevirtual 36, 3) := by decide +kernel
theorem dX6_weighHeads_49 : decode cX6_weighHeads 49 = .ok (.invokestatic 42, 3) := by decide +kernel
theorem dX6_weighHeads_52 : decode cX6_weighHeads 52 = .ok (.istore 4, 2) := by decide +kernel
theorem dX6_weighHeads_54 : decode cX6_weighHeads 54 = .ok (.aload_n 3, 1) := by decide +kernel
theorem dX6_weighHeads_55 : decode cX6_weighHeads 55 = .ok (.iload 6, 2) := by decide +kernel
theorem dX6_weighHeads_57 : decode cX6_weighHeads 57 = .ok (.iconst 1, 1) := by decide +kernel
theorem dX6_weighHeads_58 : decode cX6_weighHeads 58 = .ok (.isub, 1) := by decide +kernel
theorem dX6_weighHeads_59 : decode cX6_weighHeads 59 = .ok (.iaload, 1) := by decide +kernel
theorem dX6_weighHeads_60 : decode cX6_weighHeads 60 = .ok (.istore 5, 2) := by decide +kernel
theorem dX6_weighHeads_62 : decode cX6_weighHeads 62 = .ok (.aload_n 0, 1) := by decide +kernel
theorem dX6_weighHeads_63 : decode cX6_weighHeads 63 = .ok (.getfield 9, 3) := by decide +kernel
theorem dX6_weighHeads_66 : decode cX6_weighHeads 66 = .ok (.iload 6, 2) := by decide +kernel
theorem dX6_weighHeads_68 : decode cX6_weighHeads 68 = .ok (.iload 4, 2) := by decide +kernel
theorem dX6_weighHeads_70 : decode cX6_weighHeads 70 = .ok (.iload_n 2, 1) := by decide +kernel
theorem dX6_weighHeads_71 : decode cX6_weighHeads 71 = .ok (.invokestatic 32, 3) := by decide +kernel
theorem dX6_weighHeads_74 : decode cX6_weighHeads 74 = .ok (.iinc 6 1, 3) := by decide +kernel
theorem dX6_weighHeads_77 : decode cX6_weighHeads 77 = .ok (.goto (-57), 3) := by decide +kernel
theorem dX6_weighHeads_80 : decode cX6_weighHeads 80 = .ok (.return_, 1) := by decide +kernel
theorem dX6_weighTails_0 : decode cX6_weighTails 0 = .ok (.iconst 0, 1) := by decide +kernel
theorem dX6_weighTails_1 : decode cX6_weighTails 1 = .ok (.istore 4, 2) := by decide +kernel
theorem dX6_weighTails_3 : decode cX6_weighTails 3 = .ok (.aload_n 0, 1) := by decide +kernel
theorem dX6_weighTails_4 : decode cX6_weighTails 4 = .ok (.getfield 15, 3) := by decide +kernel
theorem dX6_weighTails_7 : decode cX6_weighTails 7 = .ok (.aload_n 0, 1) := by decide +kernel
theorem dX6_weighTails_8 : decode cX6_weighTails 8 = .ok (.getfield 18, 3) := by decide +kernel
theorem dX6_weighTails_11 : decode cX6_weighTails 11 = .ok (.iload 4, 2) := by decide +kernel
theorem dX6_weighTails_13 : decode cX6_weighTails 13 = .ok (.iload_n 2, 1) := by decide +kernel
theorem dX6_weighTails_14 : decode cX6_weighTails 14 = .ok (.invokestatic 32, 3) := by decide +kernel
theorem dX6_weighTails_17 : decode cX6_weighTails 17 = .ok (.aload_n 0, 1) := by decide +kernel
theorem dX6_weighTails_18 : decode cX6_weighTails 18 = .ok (.getfield 18, 3) := by decide +kernel
theorem dX6_weighTails_21 : decode cX6_weighTails 21 = .ok (.iconst 1, 1) := by decide +kernel
theorem dX6_weighTails_22 : decode cX6_weighTails 22 = .ok (.isub, 1) := by decide +kernel
theorem dX6_weighTails_23 : decode cX6_weighTails 23 = .ok (.istore 5, 2) := by decide +kernel
theorem dX6_weighTails_25 : decode cX6_weighTails 25 = .ok (.iload 5, 2) := by decide +kernel
theorem dX6_weighTails_27 : decode cX6_weighTails 27 = .ok (.ifCond .lt 65, 3) := by decide +kernel
theorem dX6_weighTails_30 : decode cX6_weighTails 30 = .ok (.iload 4, 2) := by decide +kernel
theorem dX6_weighTails_32 : decode cX6_weighTails 32 = .ok (.iconst (-1), 1) := by decide +kernel
theorem dX6_weighTails_33 : decode cX6_weighTails 33 = .ok (.if_icmp .eq 59, 3) := by decide +kernel
theorem dX6_weighTails_36 : decode cX6_weighTails 36 = .ok (.aload_n 0, 1) := by decide +kernel
theorem dX6_weighTails_37 : decode cX6_weighTails 37 = .ok (.getfield 15, 3) := by decide +kernel
theorem dX6_weighTails_40 : decode cX6_weighTails 40 = .ok (.iload 5, 2) := by decide +kernel
theorem dX6_weighTails_42 : decode cX6_weighTails 42 = .ok (.iload 4, 2) := by decide +kernel
theorem dX6_weighTails_44 : decode cX6_weighTails 44 = .ok (.aload_n 1, 1) := by decide +kernel
theorem dX6_weighTails_45 : decode cX6_weighTails 45 = .ok (.aload_n 3, 1) := by decide +kernel
theorem dX6_weighTails_46 : decode cX6_weighTails 46 = .ok (.iload 5, 2) := by decide +kernel
theorem dX6_weighTails_48 : decode cX6_weighTails 48 = .ok (.iaload, 1) := by decide +kernel
theorem dX6_weighTails_49 : decode cX6_weighTails 49 = .ok (.iconst 0, 1) := by decide +kernel
theorem dX6_weighTails_50 : decode cX6_weighTails 50 = .ok (.invokevirtual 36, 3) := by decide +kernel
theorem dX6_weighTails_53 : decode cX6_weighTails 53 = .ok (.invokestatic 42, 3) := by decide +kernel
theorem dX6_weighTails_56 : decode cX6_weighTails 56 = .ok (.iload_n 2, 1) := by decide +kernel
theorem dX6_weighTails_57 : decode cX6_weighTails 57 = .ok (.invokestatic 32, 3) := by decide +kernel
theorem dX6_weighTails_60 : decode cX6_weighTails 60 = .ok (.iload 5, 2) := by decide +kernel
theorem dX6_weighTails_62 : decode cX6_weighTails 62 = .ok (.ifCond .le 24, 3) := by decide +kernel
theorem dX6_weighTails_65 : decode cX6_weighTails 65 = .ok (.iload 4, 2) := by decide +kernel
theorem dX6_weighTails_67 : decode cX6_weighTails 67 = .ok (.aload_n 1, 1) := by decide +kernel
theorem dX6_weighTails_68 : decode cX6_weighTails 68 = .ok (.aload_n 3, 1) := by decide +kernel
theorem dX6_weighTails_69 : decode cX6_weighTails 69 = .ok (.iload 5, 2) := by decide +kernel
theorem dX6_weighTails_71 : decode cX6_weighTails 71 = .ok (.iaload, 1) := by decide +kernel
theorem dX6_weighTails_72 : decode cX6_weighTails 72 = .ok (.aload_n 3, 1) := by decide +kernel
theorem dX6_weighTails_73 : decode cX6_weighTails 73 = .ok (.iload 5, 2) := by decide +kernel
theorem dX6_weighTails_75 : decode cX6_weighTails 75 = .ok (.iconst 1, 1) := by decide +kernel
theorem dX6_weighTails_76 : decode cX6_weighTails 76 = .ok (.isub, 1) := by decide +kernel
theorem dX6_weighTails_77 : decode cX6_weighTails 77 = .ok (.iaload, 1) := by decide +kernel
theorem dX6_weighTails_78 : decode cX6_weighTails 78 = .ok (.invokevirtual 36, 3) := by decide +kernel
theorem dX6_weighTails_81 : decode cX6_weighTails 81 = .ok (.invokestatic 42, 3) := by decide +kernel
theorem dX6_weighTails_84 : decode cX6_weighTails 84 = .ok (.istore 4, 2) := by decide +kernel
theorem dX6_weighTails_86 : decode cX6_weighTails 86 = .ok (.iinc 5 (-1), 3) := by decide +kernel
theorem dX6_weighTails_89 : decode cX6_weighTails 89 = .ok (.goto (-64), 3) := by decide +kernel
theorem dX6_weighTails_92 : decode cX6_weighTails 92 = .ok (.return_, 1) := by decide +kernel
theorem dX6_choose_0 : decode cX6_choose 0 = .ok (.iconst (-1), 1) := by decide +kernel
theorem dX6_choose_1 : decode cX6_choose 1 = .ok (.istore_n 1, 1) := by decide +kernel
theorem dX6_choose_2 : decode cX6_choose 2 = .ok (.iconst 0, 1) := by decide +kernel
theorem dX6_choose_3 : decode cX6_choose 3 = .ok (.istore_n 2, 1) := by decide +kernel
theorem dX6_choose_4 : decode cX6_choose 4 = .ok (.iload_n 2, 1) := by decide +kernel
theorem dX6_choose_5 : decode cX6_choose 5 = .ok (.aload_n 0, 1) := by decide +kernel
theorem dX6_choose_6 : decode cX6_choose 6 = .ok (.getfield 18, 3) := by decide +kernel
theorem dX6_choose_9 : decode cX6_choose 9 = .ok (.if_icmp .gt 78, 3) := by decide +kernel
theorem dX6_choose_12 : decode cX6_choose 12 = .ok (.aload_n 0, 1) := by decide +kernel
theorem dX6_choose_13 : decode cX6_choose 13 = .ok (.getfield 9, 3) := by decide +kernel
theorem dX6_choose_16 : decode cX6_choose 16 = .ok (.iload_n 2, 1) := by decide +kernel
theorem dX6_choose_17 : decode cX6_choose 17 = .ok (.iaload, 1) := by decide +kernel
theorem dX6_choose_18 : decode cX6_choose 18 = .ok (.bipush 40, 2) := by decide +kernel
theorem dX6_choose_20 : decode cX6_choose 20 = .ok (.idiv, 1) := by decide +kernel
theorem dX6_choose_21 : decode cX6_choose 21 = .ok (.aload_n 0, 1) := by decide +kernel
theorem dX6_choose_22 : decode cX6_choose 22 = .ok (.getfield 15, 3) := by decide +kernel
theorem dX6_choose_25 : decode cX6_choose 25 = .ok (.iload_n 2, 1) := by decide +kernel
theorem dX6_choose_26 : decode cX6_choose 26 = .ok (.iaload, 1) := by decide +kernel
theorem dX6_choose_27 : decode cX6_choose 27 = .ok (.bipush 40, 2) := by decide +kernel
theorem dX6_choose_29 : decode cX6_choose 29 = .ok (.idiv, 1) := by decide +kernel
theorem dX6_choose_30 : decode cX6_choose 30 = .ok (.iadd, 1) := by decide +kernel
theorem dX6_choose_31 : decode cX6_choose 31 = .ok (.istore_n 3, 1) := by decide +kernel
theorem dX6_choose_32 : decode cX6_choose 32 = .ok (.iload_n 3, 1) := by decide +kernel
theorem dX6_choose_33 : decode cX6_choose 33 = .ok (.ldc 45, 2) := by decide +kernel
theorem dX6_choose_35 : decode cX6_choose 35 = .ok (.if_icmp .ge 46, 3) := by decide +kernel
theorem dX6_choose_38 : decode cX6_choose 38 = .ok (.iload_n 1, 1) := by decide +kernel
theorem dX6_choose_39 : decode cX6_choose 39 = .ok (.iconst (-1), 1) := by decide +kernel
theorem dX6_choose_40 : decode cX6_choose 40 = .ok (.if_icmp .eq 8, 3) := by decide +kernel
theorem dX6_choose_43 : decode cX6_choose 43 = .ok (.iload_n 3, 1) := by decide +kernel
theorem dX6_choose_44 : decode cX6_choose 44 = .ok (.iload_n 1, 1) := by decide +kernel
theorem dX6_choose_45 : decode cX6_choose 45 = .ok (.if_icmp .ge 36, 3) := by decide +kernel
theorem dX6_choose_48 : decode cX6_choose 48 = .ok (.iload_n 3, 1) := by decide +kernel
theorem dX6_choose_49 : decode cX6_choose 49 = .ok (.istore_n 1, 1) := by decide +kernel
theorem dX6_choose_50 : decode cX6_choose 50 = .ok (.aload_n 0, 1) := by decide +kernel
theorem dX6_choose_51 : decode cX6_choose 51 = .ok (.iload_n 2, 1) := by decide +kernel
theorem dX6_choose_52 : decode cX6_choose 52 = .ok (.putfield 22, 3) := by decide +kernel
theorem dX6_choose_55 : decode cX6_choose 55 = .ok (.aload_n 0, 1) := by decide +kernel
theorem dX6_choose_56 : decode cX6_choose 56 = .ok (.aload_n 0, 1) := by decide +kernel
theorem dX6_choose_57 : decode cX6_choose 57 = .ok (.getfield 9, 3) := by decide +kernel
theorem dX6_choose_60 : decode cX6_choose 60 = .ok (.iload_n 2, 1) := by decide +kernel
theorem dX6_choose_61 : decode cX6_choose 61 = .ok (.iaload, 1) := by decide +kernel
theorem dX6_choose_62 : decode cX6_choose 62 = .ok (.bipush 40, 2) := by decide +kernel
theorem dX6_choose_64 : decode cX6_choose 64 = .ok (.irem, 1) := by decide +kernel
theorem dX6_choose_65 : decode cX6_choose 65 = .ok (.putfield 25, 3) := by decide +kernel
theorem dX6_choose_68 : decode cX6_choose 68 = .ok (.aload_n 0, 1) := by decide +kernel
theorem dX6_choose_69 : decode cX6_choose 69 = .ok (.aload_n 0, 1) := by decide +kernel
theorem dX6_choose_70 : decode cX6_choose 70 = .ok (.getfield 15, 3) := by decide +kernel
theorem dX6_choose_73 : decode cX6_choose 73 = .ok (.iload_n 2, 1) := by decide +kernel
theorem dX6_choose_74 : decode cX6_choose 74 = .ok (.iaload, 1) := by decide +kernel
theorem dX6_choose_75 : decode cX6_choose 75 = .ok (.bipush 40, 2) := by decide +kernel
theorem dX6_choose_77 : decode cX6_choose 77 = .ok (.irem, 1) := by decide +kernel
theorem dX6_choose_78 : decode cX6_choose 78 = .ok (.putfield 28, 3) := by decide +kernel
theorem dX6_choose_81 : decode cX6_choose 81 = .ok (.iinc 2 1, 3) := by decide +kernel
theorem dX6_choose_84 : decode cX6_choose 84 = .ok (.goto (-80), 3) := by decide +kernel
theorem dX6_choose_87 : decode cX6_choose 87 = .ok (.iload_n 1, 1) := by decide +kernel
theorem dX6_choose_88 : decode cX6_choose 88 = .ok (.ireturn, 1) := by decide +kernel
theorem dX6_offer_0 : decode cX6_offer 0 = .ok (.iload_n 2, 1) := by decide +kernel
theorem dX6_offer_1 : decode cX6_offer 1 = .ok (.iconst (-1), 1) := by decide +kernel
theorem dX6_offer_2 : decode cX6_offer 2 = .ok (.if_icmp .eq 18, 3) := by decide +kernel
theorem dX6_offer_5 : decode cX6_offer 5 = .ok (.aload_n 0, 1) := by decide +kernel
