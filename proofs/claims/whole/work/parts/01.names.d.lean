theorem dX1_numberOf_93 : decode cX1_numberOf 93 = .ok (.lreturn, 1) := by decide +kernel
set_option maxRecDepth 20000 in
theorem ggX2_init_X7_init : GoodIn wsX2_init wsX7_init := goodIn_r _ [17, 18, 2, 3, 19, 20, 21, 22, 23, 24, 25, 26, 41, 42, 43, 44, 45, 46, 47] (by decide +kernel) (by decide +kernel)
set_option maxRecDepth 20000 in
theorem gX2_init_X7_init_n11 : GoodIn wsX2_init (wsX7_init) := ggX2_init_X7_init
set_option maxRecDepth 20000 in
theorem ggX2_init_X0_init : GoodIn wsX2_init wsX0_init := goodIn_r _ [28, 29, 2, 3, 30, 31, 32, 33, 34, 35, 51, 52, 53, 54, 55] (by decide +kernel) (by decide +kernel)
set_option maxRecDepth 20000 in
theorem gX2_init_X0_init_n20 : GoodIn wsX2_init (wsX0_init) := ggX2_init_X0_init
set_option maxRecDepth 20000 in
theorem ggX2_init_X3_init : GoodIn wsX2_init wsX3_init := goodIn_r _ [37, 38, 2, 3, 30, 39, 40, 56, 57] (by decide +kernel) (by decide +kernel)
set_option maxRecDepth 20000 in
theorem gX2_init_X3_init_n31 : GoodIn wsX2_init (wsX3_init) := ggX2_init_X3_init
theorem dX2_init_0 : decode cX2_init 0 = .ok (.aload_n 0, 1) := by decide +kernel
theorem dX2_init_1 : decode cX2_init 1 = .ok (.invokespecial 3, 3) := by decide +kernel
theorem dX2_init_4 : decode cX2_init 4 = .ok (.aload_n 0, 1) := by decide +kernel
theorem dX2_init_5 : decode cX2_init 5 = .ok (.new 9, 3) := by decide +kernel
theorem dX2_init_8 : decode cX2_init 8 = .ok (.dup, 1) := by decide +kernel
theorem dX2_init_9 : decode cX2_init 9 = .ok (.invokespecial 11, 3) := by decide +kernel
theorem dX2_init_12 : decode cX2_init 12 = .ok (.putfield 12, 3) := by decide +kernel
theorem dX2_init_15 : decode cX2_init 15 = .ok (.aload_n 0, 1) := by decide +kernel
theorem dX2_init_16 : decode cX2_init 16 = .ok (.new 18, 3) := by decide +kernel
theorem dX2_init_19 : decode cX2_init 19 = .ok (.dup, 1) := by decide +kernel
theorem dX2_init_20 : decode cX2_init 20 = .ok (.invokespecial 20, 3) := by decide +kernel
theorem dX2_init_23 : decode cX2_init 23 = .ok (.putfield 21, 3) := by decide +kernel
theorem dX2_init_26 : decode cX2_init 26 = .ok (.aload_n 0, 1) := by decide +kernel
theorem dX2_init_27 : decode cX2_init 27 = .ok (.iconst 4, 1) := by decide +kernel
theorem dX2_init_28 : decode cX2_init 28 = .ok (.anewarray 25, 3) := by decide +kernel
theorem dX2_init_31 : decode cX2_init 31 = .ok (.putfield 27, 3) := by decide +kernel
theorem dX2_init_34 : decode cX2_init 34 = .ok (.iconst 0, 1) := by decide +kernel
theorem dX2_init_35 : decode cX2_init 35 = .ok (.istore_n 1, 1) := by decide +kernel
theorem dX2_init_36 : decode cX2_init 36 = .ok (.iload_n 1, 1) := by decide +kernel
theorem dX2_init_37 : decode cX2_init 37 = .ok (.iconst 4, 1) := by decide +kernel
theorem dX2_init_38 : decode cX2_init 38 = .ok (.if_icmp .ge 22, 3) := by decide +kernel
theorem dX2_init_41 : decode cX2_init 41 = .ok (.aload_n 0, 1) := by decide +kernel
theorem dX2_init_42 : decode cX2_init 42 = .ok (.getfield 27, 3) := by decide +kernel
theorem dX2_init_45 : decode cX2_init 45 = .ok (.iload_n 1, 1) := by decide +kernel
theorem dX2_init_46 : decode cX2_init 46 = .ok (.new 25, 3) := by decide +kernel
theorem dX2_init_49 : decode cX2_init 49 = .ok (.dup, 1) := by decide +kernel
theorem dX2_init_50 : decode cX2_init 50 = .ok (.invokespecial 31, 3) := by decide +kernel
theorem dX2_init_53 : decode cX2_init 53 = .ok (.aastore, 1) := by decide +kernel
theorem dX2_init_54 : decode cX2_init 54 = .ok (.iinc 1 1, 3) := by decide +kernel
theorem dX2_init_57 : decode cX2_init 57 = .ok (.goto (-21), 3) := by decide +kernel
theorem dX2_init_60 : decode cX2_init 60 = .ok (.return_, 1) := by decide +kernel
theorem dX3_init_0 : decode cX3_init 0 = .ok (.aload_n 0, 1) := by decide +kernel
theorem dX3_init_1 : decode cX3_init 1 = .ok (.invokespecial 3, 3) := by decide +kernel
theorem dX3_init_4 : decode cX3_init 4 = .ok (.aload_n 0, 1) := by decide +kernel
theorem dX3_init_5 : decode cX3_init 5 = .ok (.bipush 51, 2) := by decide +kernel
theorem dX3_init_7 : decode cX3_init 7 = .ok (.newarray .int, 2) := by decide +kernel
theorem dX3_init_9 : decode cX3_init 9 = .ok (.putfield 9, 3) := by decide +kernel
theorem dX3_init_12 : decode cX3_init 12 = .ok (.aload_n 0, 1) := by decide +kernel
theorem dX3_init_13 : decode cX3_init 13 = .ok (.sipush 400, 3) := by decide +kernel
theorem dX3_init_16 : decode cX3_init 16 = .ok (.newarray .int, 2) := by decide +kernel
theorem dX3_init_18 : decode cX3_init 18 = .ok (.putfield 15, 3) := by decide +kernel
theorem dX3_init_21 : decode cX3_init 21 = .ok (.return_, 1) := by decide +kernel
set_option maxRecDepth 20000 in
theorem ggX4_init_X8_init : GoodIn wsX4_init wsX8_init := goodIn_r _ [8, 9, 10, 11, 12, 18, 19, 20, 21, 22, 23, 13, 14, 15, 16, 17, 24, 25, 26, 27] (by decide +kernel) (by decide +kernel)
set_option maxRecDepth 20000 in
theorem gX4_init_X8_init : GoodIn wsX4_init (wsX8_init) := ggX4_init_X8_init
theorem dX4_init_0 : decode cX4_init 0 = .ok (.aload_n 0, 1) := by decide +kernel
theorem dX4_init_1 : decode cX4_init 1 = .ok (.iload_n 1, 1) := by decide +kernel
theorem dX4_init_2 : decode cX4_init 2 = .ok (.invokespecial 3, 3) := by decide +kernel
theorem dX4_init_5 : decode cX4_init 5 = .ok (.aload_n 0, 1) := by decide +kernel
theorem dX4_init_6 : decode cX4_init 6 = .ok (.iload_n 2, 1) := by decide +kernel
theorem dX4_init_7 : decode cX4_init 7 = .ok (.putfield 9, 3) := by decide +kernel
theorem dX4_init_10 : decode cX4_init 10 = .ok (.aload_n 0, 1) := by decide +kernel
theorem dX4_init_11 : decode cX4_init 11 = .ok (.aload_n 3, 1) := by decide +kernel
theorem dX4_init_12 : decode cX4_init 12 = .ok (.putfield 15, 3) := by decide +kernel
theorem dX4_init_15 : decode cX4_init 15 = .ok (.aload_n 0, 1) := by decide +kernel
theorem dX4_init_16 : decode cX4_init 16 = .ok (.aload 4, 2) := by decide +kernel
theorem dX4_init_18 : decode cX4_init 18 = .ok (.putfield 19, 3) := by decide +kernel
theorem dX4_init_21 : decode cX4_init 21 = .ok (.aload_n 0, 1) := by decide +kernel
theorem dX4_init_22 : decode cX4_init 22 = .ok (.aload 5, 2) := by decide +kernel
theorem dX4_init_24 : decode cX4_init 24 = .ok (.putfield 22, 3) := by decide +kernel
theorem dX4_init_27 : decode cX4_init 27 = .ok (.return_, 1) := by decide +kernel
set_option maxRecDepth 20000 in
theorem ggX4_write_X0_take : GoodIn wsX4_write wsX0_take := goodIn_r _ [11, 12, 13, 14, 15, 16, 17, 18, 19, 10, 20, 21, 22, 23, 24, 25, 26, 27, 28, 29, 30, 31, 32, 33, 34, 35, 36, 37, 105, 106, 107, 108, 109, 103, 104] (by decide +kernel) (by decide +kernel)
set_option maxRecDepth 20000 in
theorem gX4_write_X0_take : GoodIn wsX4_write (wsV RX4 38 RX0 yX0_take wsX0_take) := goodIn_app (goodIn_of _ (by decide +kernel)) ggX4_write_X0_take
set_option maxRecDepth 20000 in
theorem ggX4_write_X1_write : GoodIn wsX4_write wsX1_write := goodIn_r _ [43, 44, 45, 46, 42, 47, 48, 49, 50, 51, 52, 53, 54, 55, 56, 57, 58, 59, 60, 61, 62, 63, 64, 65, 66, 67, 85, 86, 87, 88, 89, 90, 91, 92, 93, 110, 111, 112, 113, 114, 115, 116] (by decide +kernel) (by decide +kernel)
set_option maxRecDepth 20000 in
theorem gX4_write_X1_write_u50X1 : GoodIn wsX4_write (va_wsU RX4 50 RX1 "BandMill$Way" ⟨"BandMill$Way", "write", "(LBandMill$Desk;[III)Z"⟩ yX1_write wsX1_write) := goodIn_app (goodIn_of _ (by decide +kernel)) ggX4_write_X1_write
set_option maxRecDepth 20000 in
theorem ggX4_write_X4_write : GoodIn wsX4_write wsX4_write := goodIn_r _ [0, 1, 2, 3, 4, 5, 6, 7, 8, 9, 10, 11, 12, 13, 14, 15, 16, 17, 18, 19, 20, 21, 22, 23, 24, 25, 26, 27, 28, 29, 30, 31, 32, 33, 34, 35, 36, 37, 38, 39, 40, 41, 42, 43, 44, 45, 46, 47, 48, 49, 50, 51, 52, 53, 54, 55, 56, 57, 58, 59, 60, 61, 62, 63, 64, 65, 66, 67, 68, 69, 70, 71, 72, 73, 74, 75, 76, 77, 78, 79, 80, 81, 82, 83, 84, 85, 86, 87, 88, 89, 90, 91, 92, 93, 94, 95, 96, 97, 98, 99, 100, 101, 102, 103, 104, 105, 106, 107, 108, 109, 110, 111, 112, 113, 114, 115, 116] (by decide +kernel) (by decide +kernel)
set_option maxRecDepth 20000 in
theorem gX4_write_X4_write_u50X4 : GoodIn wsX4_write (va_wsU RX4 50 RX4 "BandMill$Way" ⟨"BandMill$Way", "write", "(LBandMill$Desk;[III)Z"⟩ yX4_write wsX4_write) := goodIn_app (goodIn_of _ (by decide +kernel)) ggX4_write_X4_write
set_option maxRecDepth 20000 in
theorem ggX4_write_X5_write : GoodIn wsX4_write wsX5_write := goodIn_r _ [77, 78, 79, 80, 15, 81, 82, 83, 84, 39, 40, 41, 42, 43, 44, 45, 46, 47, 48, 49, 50, 51, 52, 53, 54, 55, 56, 57, 58, 59, 60, 61, 62, 63, 64, 65, 66, 67, 68, 69, 70, 71, 72, 73, 0, 1, 2, 3, 4, 5, 6, 7, 8, 9, 10, 11, 12, 13, 14, 16, 17, 18, 19, 20, 21, 22, 23, 24, 25, 26, 27, 28, 29, 30, 31, 32, 33, 34, 35, 36, 37, 38, 74, 75, 76, 85, 86, 87, 88, 89, 90, 91, 92, 93, 94, 95, 96, 97, 98, 99, 100, 101, 102, 103, 104, 105, 106, 107, 108, 109, 110, 111, 112, 113, 114, 115, 116] (by decide +kernel) (by decide +kernel)
set_option maxRecDepth 20000 in
theorem gX4_write_X5_write_u50X5 : GoodIn wsX4_write (va_wsU RX4 50 RX5 "BandMill$Way" ⟨"BandMill$Way", "write", "(LBandMill$Desk;[III)Z"⟩ yX5_write wsX5_write) := goodIn_app (goodIn_of _ (by decide +kernel)) ggX4_write_X5_write
set_option maxRecDepth 20000 in
theorem ggX4_write_X4_gatherOthers : GoodIn wsX4_write wsX4_gatherOthers := goodIn_r _ [76] (by decide +kernel) (by decide +kernel)
set_option maxRecDepth 20000 in
theorem gX4_write_X4_gatherOthers : GoodIn wsX4_write (va_wsS RX4 57 yX4_gatherOthers wsX4_gatherOthers) := goodIn_app (goodIn_of _ (by decide +kernel)) ggX4_write_X4_gatherOthers
theorem dX4_write_0 : decode cX4_write 0 = .ok (.aload_n 1, 1) := by decide +kernel
theorem dX4_write_1 : decode cX4_write 1 = .ok (.getfield 25, 3) := by decide +kernel
theorem dX4_write_4 : decode cX4_write 4 = .ok (.aload_n 0, 1) := by decide +kernel
theorem dX4_write_5 : decode cX4_write 5 = .ok (.getfield 31, 3) := by decide +kernel
theorem dX4_write_8 : decode cX4_write 8 = .ok (.iconst 1, 1) := by decide +kernel
theorem dX4_write_9 : decode cX4_write 9 = .ok (.isub, 1) := by decide +kernel
theorem dX4_write_10 : decode cX4_write 10 = .ok (.aaload, 1) := by decide +kernel
theorem dX4_write_11 : decode cX4_write 11 = .ok (.astore 5, 2) := by decide +kernel
theorem dX4_write_13 : decode cX4_write 13 = .ok (.aload_n 1, 1) := by decide +kernel
theorem dX4_write_14 : decode cX4_write 14 = .ok (.getfield 34, 3) := by decide +kernel
theorem dX4_write_17 : decode cX4_write 17 = .ok (.aload_n 2, 1) := by decide +kernel
theorem dX4_write_18 : decode cX4_write 18 = .ok (.iload_n 3, 1) := by decide +kernel
theorem dX4_write_19 : decode cX4_write 19 = .ok (.iload 4, 2) := by decide +kernel
theorem dX4_write_21 : decode cX4_write 21 = .ok (.aload_n 0, 1) := by decide +kernel
theorem dX4_write_22 : decode cX4_write 22 = .ok (.getfield 9, 3) := by decide +kernel
theorem dX4_write_25 : decode cX4_write 25 = .ok (.aload 5, 2) := by decide +kernel
theorem dX4_write_27 : decode cX4_write 27 = .ok (.invokevirtual 38, 3) := by decide +kernel
theorem dX4_write_30 : decode cX4_write 30 = .ok (.aload_n 0, 1) := by decide +kernel
theorem dX4_write_31 : decode cX4_write 31 = .ok (.getfield 15, 3) := by decide +kernel
theorem dX4_write_34 : decode cX4_write 34 = .ok (.aload_n 1, 1) := by decide +kernel
theorem dX4_write_35 : decode cX4_write 35 = .ok (.aload 5, 2) := by decide +kernel
theorem dX4_write_37 : decode cX4_write 37 = .ok (.getfield 44, 3) := by decide +kernel
theorem dX4_write_40 : decode cX4_write 40 = .ok (.iconst 0, 1) := by decide +kernel
theorem dX4_write_41 : decode cX4_write 41 = .ok (.iconst 1, 1) := by decide +kernel
theorem dX4_write_42 : decode cX4_write 42 = .ok (.invokevirtual 50, 3) := by decide +kernel
theorem dX4_write_45 : decode cX4_write 45 = .ok (.ifCond .eq 46, 3) := by decide +kernel
theorem dX4_write_48 : decode cX4_write 48 = .ok (.aload_n 0, 1) := by decide +kernel
theorem dX4_write_49 : decode cX4_write 49 = .ok (.getfield 15, 3) := by decide +kernel
theorem dX4_write_52 : decode cX4_write 52 = .ok (.aload_n 1, 1) := by decide +kernel
theorem dX4_write_53 : decode cX4_write 53 = .ok (.aload 5, 2) := by decide +kernel
theorem dX4_write_55 : decode cX4_write 55 = .ok (.getfield 44, 3) := by decide +kernel
theorem dX4_write_58 : decode cX4_write 58 = .ok (.iconst 1, 1) := by decide +kernel
theorem dX4_write_59 : decode cX4_write 59 = .ok (.aload 5, 2) := by decide +kernel
theorem dX4_write_61 : decode cX4_write 61 = .ok (.getfield 44, 3) := by decide +kernel
theorem dX4_write_64 : decode cX4_write 64 = .ok (.iconst 0, 1) := by decide +kernel
theorem dX4_write_65 : decode cX4_write 65 = .ok (.iaload, 1) := by decide +kernel
theorem dX4_write_66 : decode cX4_write 66 = .ok (.invokevirtual 50, 3) := by decide +kernel
theorem dX4_write_69 : decode cX4_write 69 = .ok (.ifCond .eq 22, 3) := by decide +kernel
theorem dX4_write_72 : decode cX4_write 72 = .ok (.aload_n 0, 1) := by decide +kernel
theorem dX4_write_73 : decode cX4_write 73 = .ok (.getfield 19, 3) := by decide +kernel
theorem dX4_write_76 : decode cX4_write 76 = .ok (.aload_n 1, 1) := by decide +kernel
theorem dX4_write_77 : decode cX4_write 77 = .ok (.aload 5, 2) := by decide +kernel
theorem dX4_write_79 : decode cX4_write 79 = .ok (.getfield 54, 3) := by decide +kernel
theorem dX4_write_82 : decode cX4_write 82 = .ok (.iconst 0, 1) := by decide +kernel
theorem dX4_write_83 : decode cX4_write 83 = .ok (.iload 4, 2) := by decide +kernel
theorem dX4_write_85 : decode cX4_write 85 = .ok (.invokevirtual 50, 3) := by decide +kernel
theorem dX4_write_88 : decode cX4_write 88 = .ok (.ifCond .ne 5, 3) := by decide +kernel
theorem dX4_write_91 : decode cX4_write 91 = .ok (.iconst 0, 1) := by decide +kernel
theorem dX4_write_92 : decode cX4_write 92 = .ok (.ireturn, 1) := by decide +kernel
theorem dX4_write_93 : decode cX4_write 93 = .ok (.aload_n 2, 1) := by decide +kernel
theorem dX4_write_94 : decode cX4_write 94 = .ok (.iload_n 3, 1) := by decide +kernel
theorem dX4_write_95 : decode cX4_write 95 = .ok (.iload 4, 2) := by decide +kernel
theorem dX4_write_97 : decode cX4_write 97 = .ok (.aload 5, 2) := by decide +kernel
theorem dX4_write_99 : decode cX4_write 99 = .ok (.getfield 54, 3) := by decide +kernel
theorem dX4_write_102 : decode cX4_write 102 = .ok (.invokestatic 57, 3) := by decide +kernel
theorem dX4_write_105 : decode cX4_write 105 = .ok (.istore 6, 2) := by decide +kernel
theorem dX4_write_107 : decode cX4_write 107 = .ok (.aload_n 0, 1) := by decide +kernel
theorem dX4_write_108 : decode cX4_write 108 = .ok (.getfield 22, 3) := by decide +kernel
theorem dX4_write_111 : decode cX4_write 111 = .ok (.aload_n 1, 1) := by decide +kernel
theorem dX4_write_112 : decode cX4_write 112 = .ok (.aload 5, 2) := by decide +kernel
theorem dX4_write_114 : decode cX4_write 114 = .ok (.getfield 54, 3) := by decide +kernel
theorem dX4_write_117 : decode cX4_write 117 = .ok (.iconst 0, 1) := by decide +kernel
theorem dX4_write_118 : decode cX4_write 118 = .ok (.iload 6, 2) := by decide +kernel
theorem dX4_write_120 : decode cX4_write 120 = .ok (.invokevirtual 50, 3) := by decide +kernel
theorem dX4_write_123 : decode cX4_write 123 = .ok (.ireturn, 1) := by decide +kernel
set_option maxRecDepth 20000 in
theorem ggX4_read_X1_read : GoodIn wsX4_read wsX1_read := goodIn_r _ [12, 13, 14, 15, 16, 17, 18, 11, 19, 20, 21, 22, 23, 24, 25, 26, 27, 28, 29, 30, 31, 32, 33, 34, 35, 36, 37, 38, 39, 40, 41, 42, 43, 44, 45, 46, 69, 70, 71, 87, 88, 89, 90, 91, 92, 93, 72, 73, 74, 75, 76, 77] (by decide +kernel) (by decide +kernel)
set_option maxRecDepth 20000 in
theorem gX4_read_X1_read_u70X1 : GoodIn wsX4_read (va_wsU RX4 70 RX1 "BandMill$Way" ⟨"BandMill$Way", "read", "(LBandMill$Desk;[III)Z"⟩ yX1_read wsX1_read) := goodIn_app (goodIn_of _ (by decide +kernel)) ggX4_read_X1_read
set_option maxRecDepth 20000 in
theorem ggX4_read_X4_read : GoodIn wsX4_read wsX4_read := goodIn_r _ [0, 1, 2, 3, 4, 5, 6, 7, 8, 9, 10, 11, 12, 13, 14, 15, 16, 17, 18, 19, 20, 21, 22, 23, 24, 25, 26, 27, 28, 29, 30, 31, 32, 33, 34, 35, 36, 37, 38, 39, 40, 41, 42, 43, 44, 45, 46, 47, 48, 49, 50, 51, 52, 53, 54, 55, 56, 57, 58, 59, 60, 61, 62, 63, 64, 65, 66, 67, 68, 69, 70, 71, 72, 73, 74, 75, 76, 77, 78, 79, 80, 81, 82, 83, 84, 85, 86, 87, 88, 89, 90, 91, 92, 93, 94, 95] (by decide +kernel) (by decide +kernel)
set_option maxRecDepth 20000 in
theorem gX4_read_X4_read_u70X4 : GoodIn wsX4_read (va_wsU RX4 70 RX4 "BandMill$Way" ⟨"BandMill$Way", "read", "(LBandMill$Desk;[III)Z"⟩ yX4_read wsX4_read) := goodIn_app (goodIn_of _ (by decide +kernel)) ggX4_read_X4_read
set_option maxRecDepth 20000 in
theorem ggX4_read_X5_read : GoodIn wsX4_read wsX5_read := goodIn_r _ [60, 61, 62, 63, 64, 65, 66, 67, 68, 8, 9, 10, 11, 12, 13, 14, 15, 16, 17, 18, 19, 20, 21, 22, 23, 24, 25, 26, 27, 28, 29, 30, 31, 32, 33, 34, 35, 36, 37, 38, 39, 40, 41, 42, 43, 44, 45, 46, 47, 48, 49, 50, 51, 52, 0, 1, 2, 3, 4, 5, 6, 7, 53, 54, 55, 56, 57, 58, 59, 69, 70, 71, 72, 73, 74, 75, 76, 77, 78, 79, 80, 81, 82, 83, 84, 85, 86, 87, 88, 89, 90, 91, 92, 93, 94, 95] (by decide +kernel) (by decide +kernel)
set_option maxRecDepth 20000 in
theorem gX4_read_X5_read_u70X5 : GoodIn wsX4_read (va_wsU RX4 70 RX5 "BandMill$Way" ⟨"BandMill$Way", "read", "(LBandMill$Desk;[III)Z"⟩ yX5_read wsX5_read) := goodIn_app (goodIn_of _ (by decide +kernel)) ggX4_read_X5_read
set_option maxRecDepth 20000 in
theorem ggX4_read_X7_fail : GoodIn wsX4_read wsX7_fail := goodIn_r _ [38, 39, 40, 87, 88, 89, 90, 91, 92, 93] (by decide +kernel) (by decide +kernel)
set_option maxRecDepth 20000 in
theorem gX4_read_X7_fail : GoodIn wsX4_read (wsV RX4 73 RX7 yX7_fail wsX7_fail) := goodIn_app (goodIn_of _ (by decide +kernel)) ggX4_read_X7_fail
set_option maxRecDepth 20000 in
theorem ggX4_read_X4_countOthers : GoodIn wsX4_read wsX4_countOthers := goodIn_r _ [56] (by decide +kernel) (by decide +kernel)
set_option maxRecDepth 20000 in
theorem gX4_read_X4_countOthers : GoodIn wsX4_read (va_wsS RX4 77 yX4_countOthers wsX4_countOthers) := goodIn_app (goodIn_of _ (by decide +kernel)) ggX4_read_X4_countOthers
set_option maxRecDepth 20000 in
theorem ggX4_read_X4_replaceTokens : GoodIn wsX4_read wsX4_replaceTokens := goodIn_r _ [59, 94, 95] (by decide +kernel) (by decide +kernel)
set_option maxRecDepth 20000 in
theorem gX4_read_X4_replaceTokens : GoodIn wsX4_read (va_wsS RX4 81 yX4_replaceTokens wsX4_replaceTokens) := goodIn_app (goodIn_of _ (by decide +kernel)) ggX4_read_X4_replaceTokens
theorem dX4_read_0 : decode cX4_read 0 = .ok (.aload_n 1, 1) := by decide +kernel
theorem dX4_read_1 : decode cX4_read 1 = .ok (.getfield 61, 3) := by decide +kernel
theorem dX4_read_4 : decode cX4_read 4 = .ok (.astore 5, 2) := by decide +kernel
theorem dX4_read_6 : decode cX4_read 6 = .ok (.aload_n 1, 1) := by decide +kernel
theorem dX4_read_7 : decode cX4_read 7 = .ok (.getfield 25, 3) := by decide +kernel
theorem dX4_read_10 : decode cX4_read 10 = .ok (.aload_n 0, 1) := by decide +kernel
theorem dX4_read_11 : decode cX4_read 11 = .ok (.getfield 31, 3) := by decide +kernel
theorem dX4_read_14 : decode cX4_read 14 = .ok (.iconst 1, 1) := by decide +kernel
theorem dX4_read_15 : decode cX4_read 15 = .ok (.isub, 1) := by decide +kernel
theorem dX4_read_16 : decode cX4_read 16 = .ok (.aaload, 1) := by decide +kernel
theorem dX4_read_17 : decode cX4_read 17 = .ok (.astore 6, 2) := by decide +kernel
theorem dX4_read_19 : decode cX4_read 19 = .ok (.aload 5, 2) := by decide +kernel
theorem dX4_read_21 : decode cX4_read 21 = .ok (.getfield 65, 3) := by decide +kernel
theorem dX4_read_24 : decode cX4_read 24 = .ok (.istore 7, 2) := by decide +kernel
theorem dX4_read_26 : decode cX4_read 26 = .ok (.aload_n 0, 1) := by decide +kernel
theorem dX4_read_27 : decode cX4_read 27 = .ok (.getfield 15, 3) := by decide +kernel
theorem dX4_read_30 : decode cX4_read 30 = .ok (.aload_n 1, 1) := by decide +kernel
theorem dX4_read_31 : decode cX4_read 31 = .ok (.aload 6, 2) := by decide +kernel
theorem dX4_read_33 : decode cX4_read 33 = .ok (.getfield 44, 3) := by decide +kernel
theorem dX4_read_36 : decode cX4_read 36 = .ok (.iconst 0, 1) := by decide +kernel
theorem dX4_read_37 : decode cX4_read 37 = .ok (.iconst 1, 1) := by decide +kernel
theorem dX4_read_38 : decode cX4_read 38 = .ok (.invokevirtual 70, 3) := by decide +kernel
theorem dX4_read_41 : decode cX4_read 41 = .ok (.ifCond .ne 5, 3) := by decide +kernel
theorem dX4_read_44 : decode cX4_read 44 = .ok (.iconst 0, 1) := by decide +kernel
theorem dX4_read_45 : decode cX4_read 45 = .ok (.ireturn, 1) := by decide +kernel
theorem dX4_read_46 : decode cX4_read 46 = .ok (.aload 6, 2) := by decide +kernel
theorem dX4_read_48 : decode cX4_read 48 = .ok (.getfield 44, 3) := by decide +kernel
theorem dX4_read_51 : decode cX4_read 51 = .ok (.iconst 0, 1) := by decide +kernel
theorem dX4_read_52 : decode cX4_read 52 = .ok (.iaload, 1) := by decide +kernel
theorem dX4_read_53 : decode cX4_read 53 = .ok (.istore 8, 2) := by decide +kernel
theorem dX4_read_55 : decode cX4_read 55 = .ok (.iload 8, 2) := by decide +kernel
theorem dX4_read_57 : decode cX4_read 57 = .ok (.ifCond .lt 12, 3) := by decide +kernel
theorem dX4_read_60 : decode cX4_read 60 = .ok (.iload 8, 2) := by decide +kernel
theorem dX4_read_62 : decode cX4_read 62 = .ok (.aload_n 0, 1) := by decide +kernel
theorem dX4_read_63 : decode cX4_read 63 = .ok (.getfield 9, 3) := by decide +kernel
theorem dX4_read_66 : decode cX4_read 66 = .ok (.if_icmp .le 12, 3) := by decide +kernel
theorem dX4_read_69 : decode cX4_read 69 = .ok (.aload 5, 2) := by decide +kernel
theorem dX4_read_71 : decode cX4_read 71 = .ok (.iconst 3, 1) := by decide +kernel
theorem dX4_read_72 : decode cX4_read 72 = .ok (.iload 7, 2) := by decide +kernel
theorem dX4_read_74 : decode cX4_read 74 = .ok (.invokevirtual 73, 3) := by decide +kernel
theorem dX4_read_77 : decode cX4_read 77 = .ok (.ireturn, 1) := by decide +kernel
theorem dX4_read_78 : decode cX4_read 78 = .ok (.aload_n 0, 1) := by decide +kernel
theorem dX4_read_79 : decode cX4_read 79 = .ok (.getfield 15, 3) := by decide +kernel
theorem dX4_read_82 : decode cX4_read 82 = .ok (.aload_n 1, 1) := by decide +kernel
theorem dX4_read_83 : decode cX4_read 83 = .ok (.aload 6, 2) := by decide +kernel
theorem dX4_read_85 : decode cX4_read 85 = .ok (.getfield 44, 3) := by decide +kernel
theorem dX4_read_88 : decode cX4_read 88 = .ok (.iconst 1, 1) := by decide +kernel
theorem dX4_read_89 : decode cX4_read 89 = .ok (.iload 8, 2) := by decide +kernel
theorem dX4_read_91 : decode cX4_read 91 = .ok (.invokevirtual 70, 3) := by decide +kernel
theorem dX4_read_94 : decode cX4_read 94 = .ok (.ifCond .ne 5, 3) := by decide +kernel
theorem dX4_read_97 : decode cX4_read 97 = .ok (.iconst 0, 1) := by decide +kernel
theorem dX4_read_98 : decode cX4_read 98 = .ok (.ireturn, 1) := by decide +kernel
theorem dX4_read_99 : decode cX4_read 99 = .ok (.aload 5, 2) := by decide +kernel
theorem dX4_read_101 : decode cX4_read 101 = .ok (.getfield 65, 3) := by decide +kernel
theorem dX4_read_104 : decode cX4_read 104 = .ok (.istore 7, 2) := by decide +kernel
theorem dX4_read_106 : decode cX4_read 106 = .ok (.aload_n 0, 1) := by decide +kernel
theorem dX4_read_107 : decode cX4_read 107 = .ok (.getfield 19, 3) := by decide +kernel
theorem dX4_read_110 : decode cX4_read 110 = .ok (.aload_n 1, 1) := by decide +kernel
theorem dX4_read_111 : decode cX4_read 111 = .ok (.aload_n 2, 1) := by decide +kernel
theorem dX4_read_112 : decode cX4_read 112 = .ok (.iload_n 3, 1) := by decide +kernel
theorem dX4_read_113 : decode cX4_read 113 = .ok (.iload 4, 2) := by decide +kernel
theorem dX4_read_115 : decode cX4_read 115 = .ok (.invokevirtual 70, 3) := by decide +kernel
theorem dX4_read_118 : decode cX4_read 118 = .ok (.ifCond .ne 5, 3) := by decide +kernel
theorem dX4_read_121 : decode cX4_read 121 = .ok (.iconst 0, 1) := by decide +kernel
theorem dX4_read_122 : decode cX4_read 122 = .ok (.ireturn, 1) := by decide +kernel
theorem dX4_read_123 : decode cX4_read 123 = .ok (.aload_n 2, 1) := by decide +kernel
theorem dX4_read_124 : decode cX4_read 124 = .ok (.iload_n 3, 1) := by decide +kernel
theorem dX4_read_125 : decode cX4_read 125 = .ok (.iload 4, 2) := by decide +kernel
theorem dX4_read_127 : decode cX4_read 127 = .ok (.iload 8, 2) := by decide +kernel
theorem dX4_read_129 : decode cX4_read 129 = .ok (.invokestatic 77, 3) := by decide +kernel
theorem dX4_read_132 : decode cX4_read 132 = .ok (.istore 9, 2) := by decide +kernel
theorem dX4_read_134 : decode cX4_read 134 = .ok (.iload 9, 2) := by decide +kernel
theorem dX4_read_136 : decode cX4_read 136 = .ok (.iconst (-1), 1) := by decide +kernel
theorem dX4_read_137 : decode cX4_read 137 = .ok (.if_icmp .ne 12, 3) := by decide +kernel
theorem dX4_read_140 : decode cX4_read 140 = .ok (.aload 5, 2) := by decide +kernel
theorem dX4_read_142 : decode cX4_read 142 = .ok (.iconst 3, 1) := by decide +kernel
theorem dX4_read_143 : decode cX4_read 143 = .ok (.iload 7, 2) := by decide +kernel
theorem dX4_read_145 : decode cX4_read 145 = .ok (.invokevirtual 73, 3) := by decide +kernel
theorem dX4_read_148 : decode cX4_read 148 = .ok (.ireturn, 1) := by decide +kernel
theorem dX4_read_149 : decode cX4_read 149 = .ok (.aload_n 0, 1) := by decide +kernel
theorem dX4_read_150 : decode cX4_read 150 = .ok (.getfield 22, 3) := by decide +kernel
theorem dX4_read_153 : decode cX4_read 153 = .ok (.aload_n 1, 1) := by decide +kernel
theorem dX4_read_154 : decode cX4_read 154 = .ok (.aload 6, 2) := by decide +kernel
theorem dX4_read_156 : decode cX4_read 156 = .ok (.getfield 54, 3) := by decide +kernel
theorem dX4_read_159 : decode cX4_read 159 = .ok (.iconst 0, 1) := by decide +kernel
theorem dX4_read_160 : decode cX4_read 160 = .ok (.iload 9, 2) := by decide +kernel
theorem dX4_read_162 : decode cX4_read 162 = .ok (.invokevirtual 70, 3) := by decide +kernel
theorem dX4_read_165 : decode cX4_read 165 = .ok (.ifCond .ne 5, 3) := by decide +kernel
theorem dX4_read_168 : decode cX4_read 168 = .ok (.iconst 0, 1) := by decide +kernel
theorem dX4_read_169 : decode cX4_read 169 = .ok (.ireturn, 1) := by decide +kernel
theorem dX4_read_170 : decode cX4_read 170 = .ok (.aload_n 2, 1) := by decide +kernel
theorem dX4_read_171 : decode cX4_read 171 = .ok (.iload_n 3, 1) := by decide +kernel
theorem dX4_read_172 : decode cX4_read 172 = .ok (.iload 4, 2) := by decide +kernel
theorem dX4_read_174 : decode cX4_read 174 = .ok (.aload 6, 2) := by decide +kernel
theorem dX4_read_176 : decode cX4_read 176 = .ok (.invokestatic 81, 3) := by decide +kernel
theorem dX4_read_179 : decode cX4_read 179 = .ok (.iconst 1, 1) := by decide +kernel
theorem dX4_read_180 : decode cX4_read 180 = .ok (.ireturn, 1) := by decide +kernel
theorem dX4_gatherOthers_0 : decode cX4_gatherOthers 0 = .ok (.iconst 0, 1) := by decide +kernel
theorem dX4_gatherOthers_1 : decode cX4_gatherOthers 1 = .ok (.istore 4, 2) := by decide +kernel
theorem dX4_gatherOthers_3 : decode cX4_gatherOthers 3 = .ok (.iconst 0, 1) := by decide +kernel
theorem dX4_gatherOthers_4 : decode cX4_gatherOthers 4 = .ok (.istore 5, 2) := by decide +kernel
theorem dX4_gatherOthers_6 : decode cX4_gatherOthers 6 = .ok (.iload 5, 2) := by decide +kernel
theorem dX4_gatherOthers_8 : decode cX4_gatherOthers 8 = .ok (.iload_n 2, 1) := by decide +kernel
theorem dX4_gatherOthers_9 : decode cX4_gatherOthers 9 = .ok (.if_icmp .ge 29, 3) := by decide +kernel
theorem dX4_gatherOthers_12 : decode cX4_gatherOthers 12 = .ok (.aload_n 3, 1) := by decide +kernel
theorem dX4_gatherOthers_13 : decode cX4_gatherOthers 13 = .ok (.iload 5, 2) := by decide +kernel
theorem dX4_gatherOthers_15 : decode cX4_gatherOthers 15 = .ok (.iaload, 1) := by decide +kernel
theorem dX4_gatherOthers_16 : decode cX4_gatherOthers 16 = .ok (.ifCond .ne 16, 3) := by decide +kernel
theorem dX4_gatherOthers_19 : decode cX4_gatherOthers 19 = .ok (.aload_n 3, 1) := by decide +kernel
theorem dX4_gatherOthers_20 : decode cX4_gatherOthers 20 = .ok (.iload 4, 2) := by decide +kernel
theorem dX4_gatherOthers_22 : decode cX4_gatherOthers 22 = .ok (.aload_n 0, 1) := by decide +kernel
theorem dX4_gatherOthers_23 : decode cX4_gatherOthers 23 = .ok (.iload_n 1, 1) := by decide +kernel
theorem dX4_gatherOthers_24 : decode cX4_gatherOthers 24 = .ok (.iload 5, 2) := by decide +kernel
theorem dX4_gatherOthers_26 : decode cX4_gatherOthers 26 = .ok (.iadd, 1) := by decide +kernel
theorem dX4_gatherOthers_27 : decode cX4_gatherOthers 27 = .ok (.iaload, 1) := by decide +kernel
theorem dX4_gatherOthers_28 : decode cX4_gatherOthers 28 = .ok (.iastore, 1) := by decide +kernel
theorem dX4_gatherOthers_29 : decode cX4_gatherOthers 29 = .ok (.iinc 4 1, 3) := by decide +kernel
theorem dX4_gatherOthers_32 : decode cX4_gatherOthers 32 = .ok (.iinc 5 1, 3) := by decide +kernel
theorem dX4_gatherOthers_35 : decode cX4_gatherOthers 35 = .ok (.goto (-29), 3) := by decide +kernel
theorem dX4_gatherOthers_38 : decode cX4_gatherOthers 38 = .ok (.iload 4, 2) := by decide +kernel
theorem dX4_gatherOthers_40 : decode cX4_gatherOthers 40 = .ok (.ireturn, 1) := by decide +kernel
theorem dX4_countOthers_0 : decode cX4_countOthers 0 = .ok (.iconst 0, 1) := by decide +kernel
theorem dX4_countOthers_1 : decode cX4_countOthers 1 = .ok (.istore 4, 2) := by decide +kernel
theorem dX4_countOthers_3 : decode cX4_countOthers 3 = .ok (.iload_n 1, 1) := by decide +kernel
theorem dX4_countOthers_4 : decode cX4_countOthers 4 = .ok (.istore 5, 2) := by decide +kernel
theorem dX4_countOthers_6 : decode cX4_countOthers 6 = .ok (.iload 5, 2) := by decide +kernel
theorem dX4_countOthers_8 : decode cX4_countOthers 8 = .ok (.iload_n 1, 1) := by decide +kernel
theorem dX4_countOthers_9 : decode cX4_countOthers 9 = .ok (.iload_n 2, 1) := by decide +kernel
theorem dX4_countOthers_10 : decode cX4_countOthers 10 = .ok (.iadd, 1) := by decide +kernel
theorem dX4_countOthers_11 : decode cX4_countOthers 11 = .ok (.if_icmp .ge 36, 3) := by decide +kernel
theorem dX4_countOthers_14 : decode cX4_countOthers 14 = .ok (.aload_n 0, 1) := by decide +kernel
theorem dX4_countOthers_15 : decode cX4_countOthers 15 = .ok (.iload 5, 2) := by decide +kernel
theorem dX4_countOthers_17 : decode cX4_countOthers 17 = .ok (.iaload, 1) := by decide +kernel
theorem dX4_countOthers_18 : decode cX4_countOthers 18 = .ok (.ifCond .lt 11, 3) := by decide +kernel
theorem dX4_countOthers_21 : decode cX4_countOthers 21 = .ok (.aload_n 0, 1) := by decide +kernel
theorem dX4_countOthers_22 : decode cX4_countOthers 22 = .ok (.iload 5, 2) := by decide +kernel
theorem dX4_countOthers_24 : decode cX4_countOthers 24 = .ok (.iaload, 1) := by decide +kernel
theorem dX4_countOthers_25 : decode cX4_countOthers 25 = .ok (.iload_n 3, 1) := by decide +kernel
theorem dX4_countOthers_26 : decode cX4_countOthers 26 = .ok (.if_icmp .le 5, 3) := by decide +kernel
theorem dX4_countOthers_29 : decode cX4_countOthers 29 = .ok (.iconst (-1), 1) := by decide +kernel
theorem dX4_countOthers_30 : decode cX4_countOthers 30 = .ok (.ireturn, 1) := by decide +kernel
theorem dX4_countOthers_31 : decode cX4_countOthers 31 = .ok (.aload_n 0, 1) := by decide +kernel
theorem dX4_countOthers_32 : decode cX4_countOthers 32 = .ok (.iload 5, 2) := by decide +kernel
theorem dX4_countOthers_34 : decode cX4_countOthers 34 = .ok (.iaload, 1) := by decide +kernel
theorem dX4_countOthers_35 : decode cX4_countOthers 35 = .ok (.ifCond .ne 6, 3) := by decide +kernel
theorem dX4_countOthers_38 : decode cX4_countOthers 38 = .ok (.iinc 4 1, 3) := by decide +kernel
theorem dX4_countOthers_41 : decode cX4_countOthers 41 = .ok (.iinc 5 1, 3) := by decide +kernel
theorem dX4_countOthers_44 : decode cX4_countOthers 44 = .ok (.goto (-38), 3) := by decide +kernel
theorem dX4_countOthers_47 : decode cX4_countOthers 47 = .ok (.iload 4, 2) := by decide +kernel
theorem dX4_countOthers_49 : decode cX4_countOthers 49 = .ok (.ireturn, 1) := by decide +kernel
theorem dX4_replaceTokens_0 : decode cX4_replaceTokens 0 = .ok (.iconst 0, 1) := by decide +kernel
theorem dX4_replaceTokens_1 : decode cX4_replaceTokens 1 = .ok (.istore 4, 2) := by decide +kernel
theorem dX4_replaceTokens_3 : decode cX4_replaceTokens 3 = .ok (.iload_n 1, 1) := by decide +kernel
theorem dX4_replaceTokens_4 : decode cX4_replaceTokens 4 = .ok (.istore 5, 2) := by decide +kernel
theorem dX4_replaceTokens_6 : decode cX4_replaceTokens 6 = .ok (.iload 5, 2) := by decide +kernel
theorem dX4_replaceTokens_8 : decode cX4_replaceTokens 8 = .ok (.iload_n 1, 1) := by decide +kernel
theorem dX4_replaceTokens_9 : decode cX4_replaceTokens 9 = .ok (.iload_n 2, 1) := by decide +kernel
theorem dX4_replaceTokens_10 : decode cX4_replaceTokens 10 = .ok (.iadd, 1) := by decide +kernel
theorem dX4_replaceTokens_11 : decode cX4_replaceTokens 11 = .ok (.if_icmp .ge 46, 3) := by decide +kernel
theorem dX4_replaceTokens_14 : decode cX4_replaceTokens 14 = .ok (.aload_n 0, 1) := by decide +kernel
theorem dX4_replaceTokens_15 : decode cX4_replaceTokens 15 = .ok (.iload 5, 2) := by decide +kernel
theorem dX4_replaceTokens_17 : decode cX4_replaceTokens 17 = .ok (.iaload, 1) := by decide +kernel
theorem dX4_replaceTokens_18 : decode cX4_replaceTokens 18 = .ok (.ifCond .ne 20, 3) := by decide +kernel
theorem dX4_replaceTokens_21 : decode cX4_replaceTokens 21 = .ok (.aload_n 0, 1) := by decide +kernel
theorem dX4_replaceTokens_22 : decode cX4_replaceTokens 22 = .ok (.iload 5, 2) := by decide +kernel
theorem dX4_replaceTokens_24 : decode cX4_replaceTokens 24 = .ok (.aload_n 3, 1) := by decide +kernel
theorem dX4_replaceTokens_25 : decode cX4_replaceTokens 25 = .ok (.getfield 54, 3) := by decide +kernel
theorem dX4_replaceTokens_28 : decode cX4_replaceTokens 28 = .ok (.iload 4, 2) := by decide +kernel
theorem dX4_replaceTokens_30 : decode cX4_replaceTokens 30 = .ok (.iaload, 1) := by decide +kernel
theorem dX4_replaceTokens_31 : decode cX4_replaceTokens 31 = .ok (.iastore, 1) := by decide +kernel
theorem dX4_replaceTokens_32 : decode cX4_replaceTokens 32 = .ok (.iinc 4 1, 3) := by decide +kernel
theorem dX4_replaceTokens_35 : decode cX4_replaceTokens 35 = .ok (.goto 16, 3) := by decide +kernel
theorem dX4_replaceTokens_38 : decode cX4_replaceTokens 38 = .ok (.aload_n 0, 1) := by decide +kernel
theorem dX4_replaceTokens_39 : decode cX4_replaceTokens 39 = .ok (.iload 5, 2) := by decide +kernel
theorem dX4_replaceTokens_41 : decode cX4_replaceTokens 41 = .ok (.aload_n 3, 1) := by decide +kernel
theorem dX4_replaceTokens_42 : decode cX4_replaceTokens 42 = .ok (.getfield 44, 3) := by decide +kernel
theorem dX4_replaceTokens_45 : decode cX4_replaceTokens 45 = .ok (.aload_n 0, 1) := by decide +kernel
theorem dX4_replaceTokens_46 : decode cX4_replaceTokens 46 = .ok (.iload 5, 2) := by decide +kernel
theorem dX4_replaceTokens_48 : decode cX4_replaceTokens 48 = .ok (.iaload, 1) := by decide +kernel
theorem dX4_replaceTokens_49 : decode cX4_replaceTokens 49 = .ok (.iaload, 1) := by decide +kernel
theorem dX4_replaceTokens_50 : decode cX4_replaceTokens 50 = .ok (.iastore, 1) := by decide +kernel
theorem dX4_replaceTokens_51 : decode cX4_replaceTokens 51 = .ok (.iinc 5 1, 3) := by decide +kernel
theorem dX4_replaceTokens_54 : decode cX4_replaceTokens 54 = .ok (.goto (-48), 3) := by decide +kernel
theorem dX4_replaceTokens_57 : decode cX4_replaceTokens 57 = .ok (.return_, 1) := by decide +kernel
set_option maxRecDepth 20000 in
theorem ggX5_init_X8_init : GoodIn wsX5_init wsX8_init := goodIn_r _ [7, 8, 9, 10, 11, 16, 17, 18, 19, 20, 21, 22, 23, 24, 25, 26, 12, 13, 14, 15] (by decide +kernel) (by decide +kernel)
set_option maxRecDepth 20000 in
theorem gX5_init_X8_init : GoodIn wsX5_init (wsX8_init) := ggX5_init_X8_init
theorem dX5_init_0 : decode cX5_init 0 = .ok (.aload_n 0, 1) := by decide +kernel
theorem dX5_init_1 : decode cX5_init 1 = .ok (.iload_n 1, 1) := by decide +kernel
theorem dX5_init_2 : decode cX5_init 2 = .ok (.invokespecial 1, 3) := by decide +kernel
theorem dX5_init_5 : decode cX5_init 5 = .ok (.aload_n 0, 1) := by decide +kernel
theorem dX5_init_6 : decode cX5_init 6 = .ok (.iload_n 2, 1) := by decide +kernel
theorem dX5_init_7 : decode cX5_init 7 = .ok (.putfield 7, 3) := by decide +kernel
theorem dX5_init_10 : decode cX5_init 10 = .ok (.aload_n 0, 1) := by decide +kernel
theorem dX5_init_11 : decode cX5_init 11 = .ok (.aload_n 3, 1) := by decide +kernel
theorem dX5_init_12 : decode cX5_init 12 = .ok (.putfield 13, 3) := by decide +kernel
theorem dX5_init_15 : decode cX5_init 15 = .ok (.aload_n 0, 1) := by decide +kernel
theorem dX5_init_16 : decode cX5_init 16 = .ok (.aload 4, 2) := by decide +kernel
theorem dX5_init_18 : decode cX5_init 18 = .ok (.putfield 17, 3) := by decide +kernel
theorem dX5_init_21 : decode cX5_init 21 = .ok (.return_, 1) := by decide +kernel
set_option maxRecDepth 20000 in
theorem ggX5_write_X1_write : GoodIn wsX5_write wsX1_write := goodIn_r _ [13, 14, 15, 16, 12, 17, 18, 19, 20, 21, 22, 23, 24, 25, 26, 27, 28, 29, 30, 31, 32, 33, 34, 35, 36, 37, 85, 86, 87, 88, 89, 90, 91, 92, 93, 110, 111, 112, 113, 114, 115, 116] (by decide +kernel) (by decide +kernel)
set_option maxRecDepth 20000 in
theorem gX5_write_X1_write_u26X1 : GoodIn wsX5_write (va_wsU RX5 26 RX1 "BandMill$Way" ⟨"BandMill$Way", "write", "(LBandMill$Desk;[III)Z"⟩ yX1_write wsX1_write) := goodIn_app (goodIn_of _ (by decide +kernel)) ggX5_write_X1_write
set_option maxRecDepth 20000 in
theorem ggX5_write_X4_write : GoodIn wsX5_write wsX4_write := goodIn_r _ [44, 45, 46, 47, 48, 49, 50, 51, 52, 53, 54, 55, 56, 57, 58, 4, 59, 60, 61, 62, 63, 64, 65, 66, 67, 68, 69, 70, 71, 72, 73, 74, 75, 76, 77, 78, 79, 80, 81, 9, 10, 11, 12, 13, 14, 15, 16, 17, 18, 19, 20, 21, 22, 23, 24, 25, 26, 27, 28, 29, 30, 31, 32, 33, 34, 35, 36, 37, 38, 39, 40, 41, 42, 43, 82, 83, 84, 0, 1, 2, 3, 5, 6, 7, 8, 85, 86, 87, 88, 89, 90, 91, 92, 93, 94, 95, 96, 97, 98, 99, 100, 101, 102, 103, 104, 105, 106, 107, 108, 109, 110, 111, 112, 113, 114, 115, 116] (by decide +kernel) (by decide +kernel)
set_option maxRecDepth 20000 in
theorem gX5_write_X4_write_u26X4 : GoodIn wsX5_write (va_wsU RX5 26 RX4 "BandMill$Way" ⟨"BandMill$Way", "write", "(LBandMill$Desk;[III)Z"⟩ yX4_write wsX4_write) := goodIn_app (goodIn_of _ (by decide +kernel)) ggX5_write_X4_write
set_option maxRecDepth 20000 in
theorem ggX5_write_X5_write : GoodIn wsX5_write wsX5_write := goodIn_r _ [0, 1, 2, 3, 4, 5, 6, 7, 8, 9, 10, 11, 12, 13, 14, 15, 16, 17, 18, 19, 20, 21, 22, 23, 24, 25, 26, 27, 28, 29, 30, 31, 32, 33, 34, 35, 36, 37, 38, 39, 40, 41, 42, 43, 44, 45, 46, 47, 48, 49, 50, 51, 52, 53, 54, 55, 56, 57, 58, 59, 60, 61, 62, 63, 64, 65, 66, 67, 68, 69, 70, 71, 72, 73, 74, 75, 76, 77, 78, 79, 80, 81, 82, 83, 84, 85, 86, 87, 88, 89, 90, 91, 92, 93, 94, 95, 96, 97, 98, 99, 100, 101, 102, 103, 104, 105, 106, 107, 108, 109, 110, 111, 112, 113, 114, 115, 116] (by decide +kernel) (by decide +kernel)
set_option maxRecDepth 20000 in
theorem gX5_write_X5_write_u26X5 : GoodIn wsX5_write (va_wsU RX5 26 RX5 "BandMill$Way" ⟨"BandMill$Way", "write", "(LBandMill$Desk;[III)Z"⟩ yX5_write wsX5_write) := goodIn_app (goodIn_of _ (by decide +kernel)) ggX5_write_X5_write
theorem dX5_write_0 : decode cX5_write 0 = .ok (.aload_n 0, 1) := by decide +kernel
theorem dX5_write_1 : decode cX5_write 1 = .ok (.getfield 7, 3) := by decide +kernel
theorem dX5_write_4 : decode cX5_write 4 = .ok (.iload 4, 2) := by decide +kernel
theorem dX5_write_6 : decode cX5_write 6 = .ok (.invokestatic 20, 3) := by decide +kernel
theorem dX5_write_9 : decode cX5_write 9 = .ok (.istore 5, 2) := by decide +kernel
theorem dX5_write_11 : decode cX5_write 11 = .ok (.aload_n 0, 1) := by decide +kernel
theorem dX5_write_12 : decode cX5_write 12 = .ok (.getfield 13, 3) := by decide +kernel
theorem dX5_write_15 : decode cX5_write 15 = .ok (.aload_n 1, 1) := by decide +kernel
theorem dX5_write_16 : decode cX5_write 16 = .ok (.aload_n 2, 1) := by decide +kernel
theorem dX5_write_17 : decode cX5_write 17 = .ok (.iload_n 3, 1) := by decide +kernel
theorem dX5_write_18 : decode cX5_write 18 = .ok (.iload 5, 2) := by decide +kernel
theorem dX5_write_20 : decode cX5_write 20 = .ok (.invokevirtual 26, 3) := by decide +kernel
theorem dX5_write_23 : decode cX5_write 23 = .ok (.ifCond .eq 28, 3) := by decide +kernel
theorem dX5_write_26 : decode cX5_write 26 = .ok (.aload_n 0, 1) := by decide +kernel
theorem dX5_write_27 : decode cX5_write 27 = .ok (.getfield 17, 3) := by decide +kernel
theorem dX5_write_30 : decode cX5_write 30 = .ok (.aload_n 1, 1) := by decide +kernel
theorem dX5_write_31 : decode cX5_write 31 = .ok (.aload_n 2, 1) := by decide +kernel
theorem dX5_write_32 : decode cX5_write 32 = .ok (.iload_n 3, 1) := by decide +kernel
theorem dX5_write_33 : decode cX5_write 33 = .ok (.iload 5, 2) := by decide +kernel
theorem dX5_write_35 : decode cX5_write 35 = .ok (.iadd, 1) := by decide +kernel
theorem dX5_write_36 : decode cX5_write 36 = .ok (.iload 4, 2) := by decide +kernel
theorem dX5_write_38 : decode cX5_write 38 = .ok (.iload 5, 2) := by decide +kernel
theorem dX5_write_40 : decode cX5_write 40 = .ok (.isub, 1) := by decide +kernel
theorem dX5_write_41 : decode cX5_write 41 = .ok (.invokevirtual 26, 3) := by decide +kernel
theorem dX5_write_44 : decode cX5_write 44 = .ok (.ifCond .eq 7, 3) := by decide +kernel
theorem dX5_write_47 : decode cX5_write 47 = .ok (.iconst 1, 1) := by decide +kernel
theorem dX5_write_48 : decode cX5_write 48 = .ok (.goto 4, 3) := by decide +kernel
theorem dX5_write_51 : decode cX5_write 51 = .ok (.iconst 0, 1) := by decide +kernel
theorem dX5_write_52 : decode cX5_write 52 = .ok (.ireturn, 1) := by decide +kernel
set_option maxRecDepth 20000 in
theorem ggX5_read_X1_read : GoodIn wsX5_read wsX1_read := goodIn_r _ [13, 14, 15, 16, 17, 18, 19, 12, 20, 21, 22, 23, 24, 25, 26, 27, 28, 29, 30, 31, 32, 33, 34, 35, 36, 37, 38, 39, 40, 41, 42, 43, 44, 45, 46, 47, 69, 70, 71, 87, 88, 89, 90, 91, 92, 93, 72, 73, 74, 75, 76, 77] (by decide +kernel) (by decide +kernel)
set_option maxRecDepth 20000 in
theorem gX5_read_X1_read_u30X1 : GoodIn wsX5_read (va_wsU RX5 30 RX1 "BandMill$Way" ⟨"BandMill$Way", "read", "(LBandMill$Desk;[III)Z"⟩ yX1_read wsX1_read) := goodIn_app (goodIn_of _ (by decide +kernel)) ggX5_read_X1_read
set_option maxRecDepth 20000 in
theorem ggX5_read_X4_read : GoodIn wsX5_read wsX4_read := goodIn_r _ [54, 55, 56, 57, 58, 59, 60, 61, 9, 10, 11, 12, 13, 14, 15, 16, 17, 18, 19, 20, 21, 22, 23, 24, 25, 26, 27, 28, 29, 30, 31, 32, 33, 34, 35, 36, 37, 38, 39, 40, 41, 42, 43, 44, 45, 46, 47, 48, 49, 50, 51, 52, 53, 62, 63, 64, 65, 66, 67, 68, 0, 1, 2, 3, 4, 5, 6, 7, 8, 69, 70, 71, 72, 73, 74, 75, 76, 77, 78, 79, 80, 81, 82, 83, 84, 85, 86, 87, 88, 89, 90, 91, 92, 93, 94, 95] (by decide +kernel) (by decide +kernel)
set_option maxRecDepth 20000 in
theorem gX5_read_X4_read_u30X4 : GoodIn wsX5_read (va_wsU RX5 30 RX4 "BandMill$Way" ⟨"BandMill$Way", "read", "(LBandMill$Desk;[III)Z"⟩ yX4_read wsX4_read) := goodIn_app (goodIn_of _ (by decide +kernel)) ggX5_read_X4_read
set_option maxRecDepth 20000 in
theorem ggX5_read_X5_read : GoodIn wsX5_read wsX5_read := goodIn_r _ [0, 1, 2, 3, 4, 5, 6, 7, 8, 9, 10, 11, 12, 13, 14, 15, 16, 17, 18, 19, 20, 21, 22, 23, 24, 25, 26, 27, 28, 29, 30, 31, 32, 33, 34, 35, 36, 37, 38, 39, 40, 41, 42, 43, 44, 45, 46, 47, 48, 49, 50, 51, 52, 53, 54, 55, 56, 57, 58, 59, 60, 61, 62, 63, 64, 65, 66, 67, 68, 69, 70, 71, 72, 73, 74, 75, 76, 77, 78, 79, 80, 81, 82, 83, 84, 85, 86, 87, 88, 89, 90, 91, 92, 93, 94, 95] (by decide +kernel) (by decide +kernel)
set_option maxRecDepth 20000 in
theorem gX5_read_X5_read_u30X5 : GoodIn wsX5_read (va_wsU RX5 30 RX5 "BandMill$Way" ⟨"BandMill$Way", "read", "(LBandMill$Desk;[III)Z"⟩ yX5_read wsX5_read) := goodIn_app (goodIn_of _ (by decide +kernel)) ggX5_read_X5_read
theorem dX5_read_0 : decode cX5_read 0 = .ok (.aload_n 0, 1) := by decide +kernel
theorem dX5_read_1 : decode cX5_read 1 = .ok (.getfield 7, 3) := by decide +kernel
theorem dX5_read_4 : decode cX5_read 4 = .ok (.iload 4, 2) := by decide +kernel
theorem dX5_read_6 : decode cX5_read 6 = .ok (.invokestatic 20, 3) := by decide +kernel
theorem dX5_read_9 : decode cX5_read 9 = .ok (.istore 5, 2) := by decide +kernel
theorem dX5_read_11 : decode cX5_read 11 = .ok (.aload_n 0, 1) := by decide +kernel
theorem dX5_read_12 : decode cX5_read 12 = .ok (.getfield 13, 3) := by decide +kernel
theorem dX5_read_15 : decode cX5_read 15 = .ok (.aload_n 1, 1) := by decide +kernel
theorem dX5_read_16 : decode cX5_read 16 = .ok (.aload_n 2, 1) := by decide +kernel
theorem dX5_read_17 : decode cX5_read 17 = .ok (.iload_n 3, 1) := by decide +kernel
theorem dX5_read_18 : decode cX5_read 18 = .ok (.iload 5, 2) := by decide +kernel
theorem dX5_read_20 : decode cX5_read 20 = .ok (.invokevirtual 30, 3) := by decide +kernel
theorem dX5_read_23 : decode cX5_read 23 = .ok (.ifCond .eq 28, 3) := by decide +kernel
theorem dX5_read_26 : decode cX5_read 26 = .ok (.aload_n 0, 1) := by decide +kernel
theorem dX5_read_27 : decode cX5_read 27 = .ok (.getfield 17, 3) := by decide +kernel
theorem dX5_read_30 : decode cX5_read 30 = .ok (.aload_n 1, 1) := by decide +kernel
theorem dX5_read_31 : decode cX5_read 31 = .ok (.aload_n 2, 1) := by decide +kernel
theorem dX5_read_32 : decode cX5_read 32 = .ok (.iload_n 3, 1) := by decide +kernel
theorem dX5_read_33 : decode cX5_read 33 = .ok (.iload 5, 2) := by decide +kernel
theorem dX5_read_35 : decode cX5_read 35 = .ok (.iadd, 1) := by decide +kernel
theorem dX5_read_36 : decode cX5_read 36 = .ok (.iload 4, 2) := by decide +kernel
theorem dX5_read_38 : decode cX5_read 38 = .ok (.iload 5, 2) := by decide +kernel
theorem dX5_read_40 : decode cX5_read 40 = .ok (.isub, 1) := by decide +kernel
theorem dX5_read_41 : decode cX5_read 41 = .ok (.invokevirtual 30, 3) := by decide +kernel
theorem dX5_read_44 : decode cX5_read 44 = .ok (.ifCond .eq 7, 3) := by decide +kernel
theorem dX5_read_47 : decode cX5_read 47 = .ok (.iconst 1, 1) := by decide +kernel
theorem dX5_read_48 : decode cX5_read 48 = .ok (.goto 4, 3) := by decide +kernel
theorem dX5_read_51 : decode cX5_read 51 = .ok (.iconst 0, 1) := by decide +kernel
theorem dX5_read_52 : decode cX5_read 52 = .ok (.ireturn, 1) := by decide +kernel
theorem dX6_init_0 : decode cX6_init 0 = .ok (.aload_n 0, 1) := by decide +kernel
theorem dX6_init_1 : decode cX6_init 1 = .ok (.invokespecial 3, 3) := by decide +kernel
theorem dX6_init_4 : decode cX6_init 4 = .ok (.aload_n 0, 1) := by decide +kernel
theorem dX6_init_5 : decode cX6_init 5 = .ok (.sipush 401, 3) := by decide +kernel
theorem dX6_init_8 : decode cX6_init 8 = .ok (.newarray .int, 2) := by decide +kernel
theorem dX6_init_10 : decode cX6_init 10 = .ok (.putfield 9, 3) := by decide +kernel
theorem dX6_init_13 : decode cX6_init 13 = .ok (.aload_n 0, 1) := by decide +kernel
theorem dX6_init_14 : decode cX6_init 14 = .ok (.sipush 401, 3) := by decide +kernel
theorem dX6_init_17 : decode cX6_init 17 = .ok (.newarray .int, 2) := by decide +kernel
theorem dX6_init_19 : decode cX6_init 19 = .ok (.putfield 15, 3) := by decide +kernel
theorem dX6_init_22 : decode cX6_init 22 = .ok (.aload_n 0, 1) := by decide +kernel
theorem dX6_init_23 : decode cX6_init 23 = .ok (.iconst 0, 1) := by decide +kernel
theorem dX6_init_24 : decode cX6_init 24 = .ok (.putfield 18, 3) := by decide +kernel
theorem dX6_init_27 : decode cX6_init 27 = .ok (.aload_n 0, 1) := by decide +kernel
theorem dX6_init_28 : decode cX6_init 28 = .ok (.iconst (-1), 1) := by decide +kernel
theorem dX6_init_29 : decode cX6_init 29 = .ok (.putfield 22, 3) := by decide +kernel
theorem dX6_init_32 : decode cX6_init 32 = .ok (.aload_n 0, 1) := by decide +kernel
theorem dX6_init_33 : decode cX6_init 33 = .ok (.iconst (-1), 1) := by decide +kernel
theorem dX6_init_34 : decode cX6_init 34 = .ok (.putfield 25, 3) := by decide +kernel
theorem dX6_init_37 : decode cX6_init 37 = .ok (.aload_n 0, 1) := by decide +kernel
theorem dX6_init_38 : decode cX6_init 38 = .ok (.iconst (-1), 1) := by decide +kernel
theorem dX6_init_39 : decode cX6_init 39 = .ok (.putfield 28, 3) := by decide +kernel
theorem dX6_init_42 : decode cX6_init 42 = .ok (.return_, 1) := by decide +kernel
theorem dX6_startRow_0 : decode cX6_startRow 0 = .ok (.aload_n 0, 1) := by decide +kernel
theorem dX6_startRow_1 : decode cX6_startRow 1 = .ok (.iload_n 1, 1) := by decide +kernel
theorem dX6_startRow_2 : decode cX6_startRow 2 = .ok (.putfield 18, 3) := by decide +kernel
theorem dX6_startRow_5 : decode cX6_startRow 5 = .ok (.iconst 0, 1) := by decide +kernel
theorem dX6_startRow_6 : decode cX6_startRow 6 = .ok (.istore_n 2, 1) := by decide +kernel
theorem dX6_startRow_7 : decode cX6_startRow 7 = .ok (.iload_n 2, 1) := by decide +kernel
theorem dX6_startRow_8 : decode cX6_startRow 8 = .ok (.aload_n 0, 1) := by decide +kernel
theorem dX6_startRow_9 : decode cX6_startRow 9 = .ok (.getfield 18, 3) := by decide +kernel
theorem dX6_startRow_12 : decode cX6_startRow 12 = .ok (.if_icmp .gt 25, 3) := by decide +kernel
theorem dX6_startRow_15 : decode cX6_startRow 15 = .ok (.aload_n 0, 1) := by decide +kernel
theorem dX6_startRow_16 : decode cX6_startRow 16 = .ok (.getfield 9, 3) := by decide +kernel
theorem dX6_startRow_19 : decode cX6_startRow 19 = .ok (.iload_n 2, 1) := by decide +kernel
theorem dX6_startRow_20 : decode cX6_startRow 20 = .ok (.ldc 31, 2) := by decide +kernel
theorem dX6_startRow_22 : decode cX6_startRow 22 = .ok (.iastore, 1) := by decide +kernel
theorem dX6_startRow_23 : decode cX6_startRow 23 = .ok (.aload_n 0, 1) := by decide +kernel
theorem dX6_startRow_24 : decode cX6_startRow 24 = .ok (.getfield 15, 3) := by decide +kernel
theorem dX6_startRow_27 : decode cX6_startRow 27 = .ok (.iload_n 2, 1) := by decide +kernel
theorem dX6_startRow_28 : decode cX6_startRow 28 = .ok (.ldc 31, 2) := by decide +kernel
theorem dX6_startRow_30 : decode cX6_startRow 30 = .ok (.iastore, 1) := by decide +kernel
theorem dX6_startRow_31 : decode cX6_startRow 31 = .ok (.iinc 2 1, 3) := by decide +kernel
theorem dX6_startRow_34 : decode cX6_startRow 34 = .ok (.goto (-27), 3) := by decide +kernel
theorem dX6_startRow_37 : decode cX6_startRow 37 = .ok (.aload_n 0, 1) := by decide +kernel
theorem dX6_startRow_38 : decode cX6_startRow 38 = .ok (.iconst (-1), 1) := by decide +kernel
theorem dX6_startRow_39 : decode cX6_startRow 39 = .ok (.putfield 22, 3) := by decide +kernel
theorem dX6_startRow_42 : decode cX6_startRow 42 = .ok (.aload_n 0, 1) := by decide +kernel
theorem dX6_startRow_43 : decode cX6_startRow 43 = .ok (.iconst (-1), 1) := by decide +kernel
theorem dX6_startRow_44 : decode cX6_startRow 44 = .ok (.putfield 25, 3) := by decide +kernel
theorem dX6_startRow_47 : decode cX6_startRow 47 = .ok (.aload_n 0, 1) := by decide +kernel
theorem dX6_startRow_48 : decode cX6_startRow 48 = .ok (.iconst (-1), 1) := by decide +kernel
theorem dX6_startRow_49 : decode cX6_startRow 49 = .ok (.putfield 28, 3) := by decide +kernel
theorem dX6_startRow_52 : decode cX6_startRow 52 = .ok (.return_, 1) := by decide +kernel
set_option maxRecDepth 20000 in
theorem ggX6_weighHeads_X6_offer : GoodIn wsX6_weighHeads wsX6_offer := goodIn_r _ [6, 7, 8, 9, 10] (by decide +kernel) (by decide +kernel)
set_option maxRecDepth 20000 in
theorem gX6_weighHeads_X6_offer : GoodIn wsX6_weighHeads (va_wsS RX6 32 yX6_offer wsX6_offer) := goodIn_app (goodIn_of _ (by decide +kernel)) ggX6_weighHeads_X6_offer
set_option maxRecDepth 20000 in
theorem ggX6_weighHeads_X1_bytesOf : GoodIn wsX6_weighHeads wsX1_bytesOf := goodIn_r _ [15, 16, 17, 18, 19, 20, 21, 22, 23, 14, 24, 25, 26, 27, 37, 38, 39, 40, 41, 42] (by decide +kernel) (by decide +kernel)
set_option maxRecDepth 20000 in
theorem gX6_weighHeads_X1_bytesOf : GoodIn wsX6_weighHeads (wsV RX6 36 RX1 yX1_bytesOf wsX1_bytesOf) := goodIn_app (goodIn_of _ (by decide +kernel)) ggX6_weighHeads_X1_bytesOf
set_option maxRecDepth 20000 in
theorem ggX6_weighHeads_X6_sum : GoodIn wsX6_weighHeads wsX6_sum := goodIn_r _ [30] (by decide +kernel) (by decide +kernel)
set_option maxRecDepth 20000 in
theorem gX6_weighHeads_X6_sum : GoodIn wsX6_weighHeads (va_wsS RX6 42 yX6_sum wsX6_sum) := goodIn_app (goodIn_of _ (by decide +kernel)) ggX6_weighHeads_X6_sum
theorem dX6_weighHeads_0 : decode cX6_weighHeads 0 = .ok (.iconst 0, 1) := by decide +kernel
theorem dX6_weighHeads_1 : decode cX6_weighHeads 1 = .ok (.istore 4, 2) := by decide +kernel
theorem dX6_weighHeads_3 : decode cX6_weighHeads 3 = .ok (.iconst 0, 1) := by decide +kernel
theorem dX6_weighHeads_4 : decode cX6_weighHeads 4 = .ok (.istore 5, 2) := by decide +kernel
theorem dX6_weighHeads_6 : decode cX6_weighHeads 6 = .ok (.aload_n 0, 1) := by decide +kernel
theorem dX6_weighHeads_7 : decode cX6_weighHeads 7 = .ok (.getfield 9, 3) := by decide +kernel
theorem dX6_weighHeads_10 : decode cX6_weighHeads 10 = .ok (.iconst 0, 1) := by decide +kernel
theorem dX6_weighHeads_11 : decode cX6_weighHeads 11 = .ok (.iload 4, 2) := by decide +kernel
theorem dX6_weighHeads_13 : decode cX6_weighHeads 13 = .ok (.iload_n 2, 1) := by decide +kernel
theorem dX6_weighHeads_14 : decode cX6_weighHeads 14 = .ok (.invokestatic 32, 3) := by decide +kernel
theorem dX6_weighHeads_17 : decode cX6_weighHeads 17 = .ok (.iconst 1, 1) := by decide +kernel
theorem dX6_weighHeads_18 : decode cX6_weighHeads 18 = .ok (.istore 6, 2) := by decide +kernel
theorem dX6_weighHeads_20 : decode cX6_weighHeads 20 = .ok (.iload 6, 2) := by decide +kernel
theorem dX6_weighHeads_22 : decode cX6_weighHeads 22 = .ok (.aload_n 0, 1) := by decide +kernel
theorem dX6_weighHeads_23 : decode cX6_weighHeads 23 = .ok (.getfield 18, 3) := by decide +kernel
theorem dX6_weighHeads_26 : decode cX6_weighHeads 26 = .ok (.if_icmp .gt 54, 3) := by decide +kernel
theorem dX6_weighHeads_29 : decode cX6_weighHeads 29 = .ok (.iload 4, 2) := by decide +kernel
theorem dX6_weighHeads_31 : decode cX6_weighHeads 31 = .ok (.iconst (-1), 1) := by decide +kernel
theorem dX6_weighHeads_32 : decode cX6_weighHeads 32 = .ok (.if_icmp .eq 48, 3) := by decide +kernel
theorem dX6_weighHeads_35 : decode cX6_weighHeads 35 = .ok (.iload 4, 2) := by decide +kernel
theorem dX6_weighHeads_37 : decode cX6_weighHeads 37 = .ok (.aload_n 1, 1) := by decide +kernel
theorem dX6_weighHeads_38 : decode cX6_weighHeads 38 = .ok (.aload_n 3, 1) := by decide +kernel
theorem dX6_weighHeads_39 : decode cX6_weighHeads 39 = .ok (.iload 6, 2) := by decide +kernel
theorem dX6_weighHeads_41 : decode cX6_weighHeads 41 = .ok (.iconst 1, 1) := by decide +kernel
theorem dX6_weighHeads_42 : decode cX6_weighHeads 42 = .ok (.isub, 1) := by decide +kernel
theorem dX6_weighHeads_43 : decode cX6_weighHeads 43 = .ok (.iaload, 1) := by decide +kernel
theorem dX6_weighHeads_44 : decode cX6_weighHeads 44 = .ok (.iload 5, 2) := by decide +kernel
theorem dX6_weighHeads_46 : decode cX6_weighHeads 46 = .ok (.invokevirtual 36, 3) := by decide +kernel
theorem dX6_weighHeads_49 : decode cX6_weighHeads 49 = .ok (.invokestatic 42, 3) := by decide +kernel
theorem dX6_weighHeads_52 : decode cX6_weighHeads 52 = .ok (.istore 4, 2) := by decide +kernel
theorem dX6_weighHeads_54 : decode cX6_weighHeads 54 = .ok (.aload_n 3, 1) := by decide +kernel
theorem dX6_weighHeads_55 : decode cX6_weighHeads 55 = .ok (.iload 6, 2) := by decide +kernel
theorem dX6_weighHeads_57 : decode cX6_weighHeads 57 = .ok (.iconst 1, 1) := by decide +kernel
theorem dX6_weighHeads_58 : decode cX6_weighHeads 58 = .ok (.isub, 1) := by decide +kernel
theorem dX6_weighHeads_59 : decode cX6_weighHeads 59 = .ok (.iaload, 1) := by decide +kernel
theorem dX6_weighHeads_60 : decode cX6_weighHeads 60 = .ok (.istore 5, 2) := by decide +kernel
theorem dX6_weighHeads_62 : decode cX6_weighHeads 62 = .ok (.aload_n 0, 1) := by decide +kernel
theorem dX6_weighHeads_63 : decode cX6_weighHeads 63 = .ok (.getfield 9, 3) := by decide +kernel
theorem dX6_weighHeads_66 : decode cX6_weighHeads 66 = .ok (.iload 6, 2) := by decide +kernel
theorem dX6_weighHeads_68 : decode cX6_weighHeads 68 = .ok (.iload 4, 2) := by decide +kernel
theorem dX6_weighHeads_70 : decode cX6_weighHeads 70 = .ok (.iload_n 2, 1) := by decide +kernel
theorem dX6_weighHeads_71 : decode cX6_weighHeads 71 = .ok (.invokestatic 32, 3) := by decide +kernel
theorem dX6_weighHeads_74 : decode cX6_weighHeads 74 = .ok (.iinc 6 1, 3) := by decide +kernel
theorem dX6_weighHeads_77 : decode cX6_weighHeads 77 = .ok (.goto (-57), 3) := by decide +kernel
theorem dX6_weighHeads_80 : decode cX6_weighHeads 80 = .ok (.return_, 1) := by decide +kernel
set_option maxRecDepth 20000 in
theorem ggX6_weighTails_X6_offer : GoodIn wsX6_weighTails wsX6_offer := goodIn_r _ [6, 7, 8, 9, 10] (by decide +kernel) (by decide +kernel)
set_option maxRecDepth 20000 in
theorem gX6_weighTails_X6_offer : GoodIn wsX6_weighTails (va_wsS RX6 32 yX6_offer wsX6_offer) := goodIn_app (goodIn_of _ (by decide +kernel)) ggX6_weighTails_X6_offer
set_option maxRecDepth 20000 in
theorem ggX6_weighTails_X1_bytesOf : GoodIn wsX6_weighTails wsX1_bytesOf := goodIn_r _ [15, 16, 17, 18, 19, 20, 21, 22, 23, 14, 24, 25, 26, 27, 37, 38, 39, 40, 41, 42] (by decide +kernel) (by decide +kernel)
set_option maxRecDepth 20000 in
theorem gX6_weighTails_X1_bytesOf : GoodIn wsX6_weighTails (wsV RX6 36 RX1 yX1_bytesOf wsX1_bytesOf) := goodIn_app (goodIn_of _ (by decide +kernel)) ggX6_weighTails_X1_bytesOf
set_option maxRecDepth 20000 in
theorem ggX6_weighTails_X6_sum : GoodIn wsX6_weighTails wsX6_sum := goodIn_r _ [30] (by decide +kernel) (by decide +kernel)
set_option maxRecDepth 20000 in
theorem gX6_weighTails_X6_sum : GoodIn wsX6_weighTails (va_wsS RX6 42 yX6_sum wsX6_sum) := goodIn_app (goodIn_of _ (by decide +kernel)) ggX6_weighTails_X6_sum
theorem dX6_weighTails_0 : decode cX6_weighTails 0 = .ok (.iconst 0, 1) := by decide +kernel
theorem dX6_weighTails_1 : decode cX6_weighTails 1 = .ok (.istore 4, 2) := by decide +kernel
theorem dX6_weighTails_3 : decode cX6_weighTails 3 = .ok (.aload_n 0, 1) := by decide +kernel
theorem dX6_weighTails_4 : decode cX6_weighTails 4 = .ok (.getfield 15, 3) := by decide +kernel
theorem dX6_weighTails_7 : decode cX6_weighTails 7 = .ok (.aload_n 0, 1) := by decide +kernel
theorem dX6_weighTails_8 : decode cX6_weighTails 8 = .ok (.getfield 18, 3) := by decide +kernel
theorem dX6_weighTails_11 : decode cX6_weighTails 11 = .ok (.iload 4, 2) := by decide +kernel
theorem dX6_weighTails_13 : decode cX6_weighTails 13 = .ok (.iload_n 2, 1) := by decide +kernel
theorem dX6_weighTails_14 : decode cX6_weighTails 14 = .ok (.invokestatic 32, 3) := by decide +kernel
theorem dX6_weighTails_17 : decode cX6_weighTails 17 = .ok (.aload_n 0, 1) := by decide +kernel
theorem dX6_weighTails_18 : decode cX6_weighTails 18 = .ok (.getfield 18, 3) := by decide +kernel
theorem dX6_weighTails_21 : decode cX6_weighTails 21 = .ok (.iconst 1, 1) := by decide +kernel
theorem dX6_weighTails_22 : decode cX6_weighTails 22 = .ok (.isub, 1) := by decide +kernel
theorem dX6_weighTails_23 : decode cX6_weighTails 23 = .ok (.istore 5, 2) := by decide +kernel
theorem dX6_weighTails_25 : decode cX6_weighTails 25 = .ok (.iload 5, 2) := by decide +kernel
theorem dX6_weighTails_27 : decode cX6_weighTails 27 = .ok (.ifCond .lt 65, 3) := by decide +kernel
theorem dX6_weighTails_30 : decode cX6_weighTails 30 = .ok (.iload 4, 2) := by decide +kernel
theorem dX6_weighTails_32 : decode cX6_weighTails 32 = .ok (.iconst (-1), 1) := by decide +kernel
theorem dX6_weighTails_33 : decode cX6_weighTails 33 = .ok (.if_icmp .eq 59, 3) := by decide +kernel
theorem dX6_weighTails_36 : decode cX6_weighTails 36 = .ok (.aload_n 0, 1) := by decide +kernel
theorem dX6_weighTails_37 : decode cX6_weighTails 37 = .ok (.getfield 15, 3) := by decide +kernel
theorem dX6_weighTails_40 : decode cX6_weighTails 40 = .ok (.iload 5, 2) := by decide +kernel
theorem dX6_weighTails_42 : decode cX6_weighTails 42 = .ok (.iload 4, 2) := by decide +kernel
theorem dX6_weighTails_44 : decode cX6_weighTails 44 = .ok (.aload_n 1, 1) := by decide +kernel
theorem dX6_weighTails_45 : decode cX6_weighTails 45 = .ok (.aload_n 3, 1) := by decide +kernel
theorem dX6_weighTails_46 : decode cX6_weighTails 46 = .ok (.iload 5, 2) := by decide +kernel
theorem dX6_weighTails_48 : decode cX6_weighTails 48 = .ok (.iaload, 1) := by decide +kernel
theorem dX6_weighTails_49 : decode cX6_weighTails 49 = .ok (.iconst 0, 1) := by decide +kernel
theorem dX6_weighTails_50 : decode cX6_weighTails 50 = .ok (.invokevirtual 36, 3) := by decide +kernel
theorem dX6_weighTails_53 : decode cX6_weighTails 53 = .ok (.invokestatic 42, 3) := by decide +kernel
theorem dX6_weighTails_56 : decode cX6_weighTails 56 = .ok (.iload_n 2, 1) := by decide +kernel
theorem dX6_weighTails_57 : decode cX6_weighTails 57 = .ok (.invokestatic 32, 3) := by decide +kernel
theorem dX6_weighTails_60 : decode cX6_weighTails 60 = .ok (.iload 5, 2) := by decide +kernel
theorem dX6_weighTails_62 : decode cX6_weighTails 62 = .ok (.ifCond .le 24, 3) := by decide +kernel
theorem dX6_weighTails_65 : decode cX6_weighTails 65 = .ok (.iload 4, 2) := by decide +kernel
theorem dX6_weighTails_67 : decode cX6_weighTails 67 = .ok (.aload_n 1, 1) := by decide +kernel
theorem dX6_weighTails_68 : decode cX6_weighTails 68 = .ok (.aload_n 3, 1) := by decide +kernel
theorem dX6_weighTails_69 : decode cX6_weighTails 69 = .ok (.iload 5, 2) := by decide +kernel
theorem dX6_weighTails_71 : decode cX6_weighTails 71 = .ok (.iaload, 1) := by decide +kernel
theorem dX6_weighTails_72 : decode cX6_weighTails 72 = .ok (.aload_n 3, 1) := by decide +kernel
theorem dX6_weighTails_73 : decode cX6_weighTails 73 = .ok (.iload 5, 2) := by decide +kernel
theorem dX6_weighTails_75 : decode cX6_weighTails 75 = .ok (.iconst 1, 1) := by decide +kernel
theorem dX6_weighTails_76 : decode cX6_weighTails 76 = .ok (.isub, 1) := by decide +kernel
theorem dX6_weighTails_77 : decode cX6_weighTails 77 = .ok (.iaload, 1) := by decide +kernel
theorem dX6_weighTails_78 : decode cX6_weighTails 78 = .ok (.invokevirtual 36, 3) := by decide +kernel
theorem dX6_weighTails_81 : decode cX6_weighTails 81 = .ok (.invokestatic 42, 3) := by decide +kernel
theorem dX6_weighTails_84 : decode cX6_weighTails 84 = .ok (.istore 4, 2) := by decide +kernel
theorem dX6_weighTails_86 : decode cX6_weighTails 86 = .ok (.iinc 5 (-1), 3) := by decide +kernel
theorem dX6_weighTails_89 : decode cX6_weighTails 89 = .ok (.goto (-64), 3) := by decide +kernel
theorem dX6_weighTails_92 : decode cX6_weighTails 92 = .ok (.return_, 1) := by decide +kernel
theorem dX6_choose_0 : decode cX6_choose 0 = .ok (.iconst (-1), 1) := by decide +kernel
theorem dX6_choose_1 : decode cX6_choose 1 = .ok (.istore_n 1, 1) := by decide +kernel
theorem dX6_choose_2 : decode cX6_choose 2 = .ok (.iconst 0, 1) := by decide +kernel
theorem dX6_choose_3 : decode cX6_choose 3 = .ok (.istore_n 2, 1) := by decide +kernel
theorem dX6_choose_4 : decode cX6_choose 4 = .ok (.iload_n 2, 1) := by decide +kernel
theorem dX6_choose_5 : decode cX6_choose 5 = .ok (.aload_n 0, 1) := by decide +kernel
theorem dX6_choose_6 : decode cX6_choose 6 = .ok (.getfield 18, 3) := by decide +kernel
theorem dX6_choose_9 : decode cX6_choose 9 = .ok (.if_icmp .gt 78, 3) := by decide +kernel
theorem dX6_choose_12 : decode cX6_choose 12 = .ok (.aload_n 0, 1) := by decide +kernel
theorem dX6_choose_13 : decode cX6_choose 13 = .ok (.getfield 9, 3) := by decide +kernel
theorem dX6_choose_16 : decode cX6_choose 16 = .ok (.iload_n 2, 1) := by decide +kernel
theorem dX6_choose_17 : decode cX6_choose 17 = .ok (.iaload, 1) := by decide +kernel
theorem dX6_choose_18 : decode cX6_choose 18 = .ok (.bipush 40, 2) := by decide +kernel
theorem dX6_choose_20 : decode cX6_choose 20 = .ok (.idiv, 1) := by decide +kernel
theorem dX6_choose_21 : decode cX6_choose 21 = .ok (.aload_n 0, 1) := by decide +kernel
theorem dX6_choose_22 : decode cX6_choose 22 = .ok (.getfield 15, 3) := by decide +kernel
theorem dX6_choose_25 : decode cX6_choose 25 = .ok (.iload_n 2, 1) := by decide +kernel
theorem dX6_choose_26 : decode cX6_choose 26 = .ok (.iaload, 1) := by decide +kernel
theorem dX6_choose_27 : decode cX6_choose 27 = .ok (.bipush 40, 2) := by decide +kernel
theorem dX6_choose_29 : decode cX6_choose 29 = .ok (.idiv, 1) := by decide +kernel
theorem dX6_choose_30 : decode cX6_choose 30 = .ok (.iadd, 1) := by decide +kernel
theorem dX6_choose_31 : decode cX6_choose 31 = .ok (.istore_n 3, 1) := by decide +kernel
theorem dX6_choose_32 : decode cX6_choose 32 = .ok (.iload_n 3, 1) := by decide +kernel
theorem dX6_choose_33 : decode cX6_choose 33 = .ok (.ldc 45, 2) := by decide +kernel
theorem dX6_choose_35 : decode cX6_choose 35 = .ok (.if_icmp .ge 46, 3) := by decide +kernel
theorem dX6_choose_38 : decode cX6_choose 38 = .ok (.iload_n 1, 1) := by decide +kernel
theorem dX6_choose_39 : decode cX6_choose 39 = .ok (.iconst (-1), 1) := by decide +kernel
theorem dX6_choose_40 : decode cX6_choose 40 = .ok (.if_icmp .eq 8, 3) := by decide +kernel
theorem dX6_choose_43 : decode cX6_choose 43 = .ok (.iload_n 3, 1) := by decide +kernel
theorem dX6_choose_44 : decode cX6_choose 44 = .ok (.iload_n 1, 1) := by decide +kernel
theorem dX6_choose_45 : decode cX6_choose 45 = .ok (.if_icmp .ge 36, 3) := by decide +kernel
theorem dX6_choose_48 : decode cX6_choose 48 = .ok (.iload_n 3, 1) := by decide +kernel
theorem dX6_choose_49 : decode cX6_choose 49 = .ok (.istore_n 1, 1) := by decide +kernel
theorem dX6_choose_50 : decode cX6_choose 50 = .ok (.aload_n 0, 1) := by decide +kernel
theorem dX6_choose_51 : decode cX6_choose 51 = .ok (.iload_n 2, 1) := by decide +kernel
theorem dX6_choose_52 : decode cX6_choose 52 = .ok (.putfield 22, 3) := by decide +kernel
theorem dX6_choose_55 : decode cX6_choose 55 = .ok (.aload_n 0, 1) := by decide +kernel
theorem dX6_choose_56 : decode cX6_choose 56 = .ok (.aload_n 0, 1) := by decide +kernel
theorem dX6_choose_57 : decode cX6_choose 57 = .ok (.getfield 9, 3) := by decide +kernel
theorem dX6_choose_60 : decode cX6_choose 60 = .ok (.iload_n 2, 1) := by decide +kernel
theorem dX6_choose_61 : decode cX6_choose 61 = .ok (.iaload, 1) := by decide +kernel
theorem dX6_choose_62 : decode cX6_choose 62 = .ok (.bipush 40, 2) := by decide +kernel
theorem dX6_choose_64 : decode cX6_choose 64 = .ok (.irem, 1) := by decide +kernel
theorem dX6_choose_65 : decode cX6_choose 65 = .ok (.putfield 25, 3) := by decide +kernel
theorem dX6_choose_68 : decode cX6_choose 68 = .ok (.aload_n 0, 1) := by decide +kernel
theorem dX6_choose_69 : decode cX6_choose 69 = .ok (.aload_n 0, 1) := by decide +kernel
theorem dX6_choose_70 : decode cX6_choose 70 = .ok (.getfield 15, 3) := by decide +kernel
theorem dX6_choose_73 : decode cX6_choose 73 = .ok (.iload_n 2, 1) := by decide +kernel
theorem dX6_choose_74 : decode cX6_choose 74 = .ok (.iaload, 1) := by decide +kernel
theorem dX6_choose_75 : decode cX6_choose 75 = .ok (.bipush 40, 2) := by decide +kernel
theorem dX6_choose_77 : decode cX6_choose 77 = .ok (.irem, 1) := by decide +kernel
theorem dX6_choose_78 : decode cX6_choose 78 = .ok (.putfield 28, 3) := by decide +kernel
theorem dX6_choose_81 : decode cX6_choose 81 = .ok (.iinc 2 1, 3) := by decide +kernel
theorem dX6_choose_84 : decode cX6_choose 84 = .ok (.goto (-80), 3) := by decide +kernel
theorem dX6_choose_87 : decode cX6_choose 87 = .ok (.iload_n 1, 1) := by decide +kernel
theorem dX6_choose_88 : decode cX6_choose 88 = .ok (.ireturn, 1) := by decide +kernel
theorem dX6_offer_0 : decode cX6_offer 0 = .ok (.iload_n 2, 1) := by decide +kernel
theorem dX6_offer_1 : decode cX6_offer 1 = .ok (.iconst (-1), 1) := by decide +kernel
theorem dX6_offer_2 : decode cX6_offer 2 = .ok (.if_icmp .eq 18, 3) := by decide +kernel
theorem dX6_offer_5 : decode cX6_offer 5 = .ok (.aload_n 0, 1) := by decide +kernel
