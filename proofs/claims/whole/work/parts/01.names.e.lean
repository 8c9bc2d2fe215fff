theorem dX6_offer_6 : decode cX6_offer 6 = .ok (.iload_n 1, 1) := by decide +kernel
theorem dX6_offer_7 : decode cX6_offer 7 = .ok (.aload_n 0, 1) := by decide +kernel
theorem dX6_offer_8 : decode cX6_offer 8 = .ok (.iload_n 1, 1) := by decide +kernel
theorem dX6_offer_9 : decode cX6_offer 9 = .ok (.iaload, 1) := by decide +kernel
theorem dX6_offer_10 : decode cX6_offer 10 = .ok (.iload_n 2, 1) := by decide +kernel
theorem dX6_offer_11 : decode cX6_offer 11 = .ok (.bipush 40, 2) := by decide +kernel
theorem dX6_offer_13 : decode cX6_offer 13 = .ok (.imul, 1) := by decide +kernel
theorem dX6_offer_14 : decode cX6_offer 14 = .ok (.iload_n 3, 1) := by decide +kernel
theorem dX6_offer_15 : decode cX6_offer 15 = .ok (.iadd, 1) := by decide +kernel
theorem dX6_offer_16 : decode cX6_offer 16 = .ok (.invokestatic 46, 3) := by decide +kernel
theorem dX6_offer_19 : decode cX6_offer 19 = .ok (.iastore, 1) := by decide +kernel
theorem dX6_offer_20 : decode cX6_offer 20 = .ok (.return_, 1) := by decide +kernel
theorem dX6_sum_0 : decode cX6_sum 0 = .ok (.iload_n 0, 1) := by decide +kernel
theorem dX6_sum_1 : decode cX6_sum 1 = .ok (.iconst (-1), 1) := by decide +kernel
theorem dX6_sum_2 : decode cX6_sum 2 = .ok (.if_icmp .eq 8, 3) := by decide +kernel
theorem dX6_sum_5 : decode cX6_sum 5 = .ok (.iload_n 1, 1) := by decide +kernel
theorem dX6_sum_6 : decode cX6_sum 6 = .ok (.iconst (-1), 1) := by decide +kernel
theorem dX6_sum_7 : decode cX6_sum 7 = .ok (.if_icmp .ne 7, 3) := by decide +kernel
theorem dX6_sum_10 : decode cX6_sum 10 = .ok (.iconst (-1), 1) := by decide +kernel
theorem dX6_sum_11 : decode cX6_sum 11 = .ok (.goto 6, 3) := by decide +kernel
theorem dX6_sum_14 : decode cX6_sum 14 = .ok (.iload_n 0, 1) := by decide +kernel
theorem dX6_sum_15 : decode cX6_sum 15 = .ok (.iload_n 1, 1) := by decide +kernel
theorem dX6_sum_16 : decode cX6_sum 16 = .ok (.iadd, 1) := by decide +kernel
theorem dX6_sum_17 : decode cX6_sum 17 = .ok (.ireturn, 1) := by decide +kernel
theorem dX7_init_0 : decode cX7_init 0 = .ok (.aload_n 0, 1) := by decide +kernel
theorem dX7_init_1 : decode cX7_init 1 = .ok (.invokespecial 3, 3) := by decide +kernel
theorem dX7_init_4 : decode cX7_init 4 = .ok (.aload_n 0, 1) := by decide +kernel
theorem dX7_init_5 : decode cX7_init 5 = .ok (.sipush 8000, 3) := by decide +kernel
theorem dX7_init_8 : decode cX7_init 8 = .ok (.newarray .byte, 2) := by decide +kernel
theorem dX7_init_10 : decode cX7_init 10 = .ok (.putfield 9, 3) := by decide +kernel
theorem dX7_init_13 : decode cX7_init 13 = .ok (.aload_n 0, 1) := by decide +kernel
theorem dX7_init_14 : decode cX7_init 14 = .ok (.iconst 0, 1) := by decide +kernel
theorem dX7_init_15 : decode cX7_init 15 = .ok (.putfield 15, 3) := by decide +kernel
theorem dX7_init_18 : decode cX7_init 18 = .ok (.aload_n 0, 1) := by decide +kernel
theorem dX7_init_19 : decode cX7_init 19 = .ok (.iconst 0, 1) := by decide +kernel
theorem dX7_init_20 : decode cX7_init 20 = .ok (.putfield 19, 3) := by decide +kernel
theorem dX7_init_23 : decode cX7_init 23 = .ok (.aload_n 0, 1) := by decide +kernel
theorem dX7_init_24 : decode cX7_init 24 = .ok (.iconst 0, 1) := by decide +kernel
theorem dX7_init_25 : decode cX7_init 25 = .ok (.putfield 22, 3) := by decide +kernel
theorem dX7_init_28 : decode cX7_init 28 = .ok (.aload_n 0, 1) := by decide +kernel
theorem dX7_init_29 : decode cX7_init 29 = .ok (.iconst 0, 1) := by decide +kernel
theorem dX7_init_30 : decode cX7_init 30 = .ok (.putfield 25, 3) := by decide +kernel
theorem dX7_init_33 : decode cX7_init 33 = .ok (.aload_n 0, 1) := by decide +kernel
theorem dX7_init_34 : decode cX7_init 34 = .ok (.iconst 0, 1) := by decide +kernel
theorem dX7_init_35 : decode cX7_init 35 = .ok (.putfield 28, 3) := by decide +kernel
theorem dX7_init_38 : decode cX7_init 38 = .ok (.aload_n 0, 1) := by decide +kernel
theorem dX7_init_39 : decode cX7_init 39 = .ok (.iconst (-1), 1) := by decide +kernel
theorem dX7_init_40 : decode cX7_init 40 = .ok (.putfield 31, 3) := by decide +kernel
theorem dX7_init_43 : decode cX7_init 43 = .ok (.return_, 1) := by decide +kernel
theorem dX7_byteAt_0 : decode cX7_byteAt 0 = .ok (.iload_n 1, 1) := by decide +kernel
theorem dX7_byteAt_1 : decode cX7_byteAt 1 = .ok (.ifCond .lt 24, 3) := by decide +kernel
theorem dX7_byteAt_4 : decode cX7_byteAt 4 = .ok (.iload_n 1, 1) := by decide +kernel
theorem dX7_byteAt_5 : decode cX7_byteAt 5 = .ok (.aload_n 0, 1) := by decide +kernel
theorem dX7_byteAt_6 : decode cX7_byteAt 6 = .ok (.getfield 15, 3) := by decide +kernel
theorem dX7_byteAt_9 : decode cX7_byteAt 9 = .ok (.if_icmp .ge 16, 3) := by decide +kernel
theorem dX7_byteAt_12 : decode cX7_byteAt 12 = .ok (.aload_n 0, 1) := by decide +kernel
theorem dX7_byteAt_13 : decode cX7_byteAt 13 = .ok (.getfield 9, 3) := by decide +kernel
theorem dX7_byteAt_16 : decode cX7_byteAt 16 = .ok (.iload_n 1, 1) := by decide +kernel
theorem dX7_byteAt_17 : decode cX7_byteAt 17 = .ok (.baload, 1) := by decide +kernel
theorem dX7_byteAt_18 : decode cX7_byteAt 18 = .ok (.sipush 255, 3) := by decide +kernel
theorem dX7_byteAt_21 : decode cX7_byteAt 21 = .ok (.iand, 1) := by decide +kernel
theorem dX7_byteAt_22 : decode cX7_byteAt 22 = .ok (.goto 4, 3) := by decide +kernel
theorem dX7_byteAt_25 : decode cX7_byteAt 25 = .ok (.iconst (-1), 1) := by decide +kernel
theorem dX7_byteAt_26 : decode cX7_byteAt 26 = .ok (.ireturn, 1) := by decide +kernel
theorem dX7_startDraft_0 : decode cX7_startDraft 0 = .ok (.aload_n 0, 1) := by decide +kernel
theorem dX7_startDraft_1 : decode cX7_startDraft 1 = .ok (.iconst 0, 1) := by decide +kernel
theorem dX7_startDraft_2 : decode cX7_startDraft 2 = .ok (.putfield 22, 3) := by decide +kernel
theorem dX7_startDraft_5 : decode cX7_startDraft 5 = .ok (.return_, 1) := by decide +kernel
theorem dX7_draft_0 : decode cX7_draft 0 = .ok (.aload_n 0, 1) := by decide +kernel
theorem dX7_draft_1 : decode cX7_draft 1 = .ok (.getfield 15, 3) := by decide +kernel
theorem dX7_draft_4 : decode cX7_draft 4 = .ok (.aload_n 0, 1) := by decide +kernel
theorem dX7_draft_5 : decode cX7_draft 5 = .ok (.getfield 22, 3) := by decide +kernel
theorem dX7_draft_8 : decode cX7_draft 8 = .ok (.iadd, 1) := by decide +kernel
theorem dX7_draft_9 : decode cX7_draft 9 = .ok (.istore_n 2, 1) := by decide +kernel
theorem dX7_draft_10 : decode cX7_draft 10 = .ok (.iload_n 2, 1) := by decide +kernel
theorem dX7_draft_11 : decode cX7_draft 11 = .ok (.sipush 8000, 3) := by decide +kernel
theorem dX7_draft_14 : decode cX7_draft 14 = .ok (.if_icmp .ge 11, 3) := by decide +kernel
theorem dX7_draft_17 : decode cX7_draft 17 = .ok (.aload_n 0, 1) := by decide +kernel
theorem dX7_draft_18 : decode cX7_draft 18 = .ok (.getfield 9, 3) := by decide +kernel
theorem dX7_draft_21 : decode cX7_draft 21 = .ok (.iload_n 2, 1) := by decide +kernel
theorem dX7_draft_22 : decode cX7_draft 22 = .ok (.iload_n 1, 1) := by decide +kernel
theorem dX7_draft_23 : decode cX7_draft 23 = .ok (.i2b, 1) := by decide +kernel
theorem dX7_draft_24 : decode cX7_draft 24 = .ok (.bastore, 1) := by decide +kernel
theorem dX7_draft_25 : decode cX7_draft 25 = .ok (.aload_n 0, 1) := by decide +kernel
theorem dX7_draft_26 : decode cX7_draft 26 = .ok (.dup, 1) := by decide +kernel
theorem dX7_draft_27 : decode cX7_draft 27 = .ok (.getfield 22, 3) := by decide +kernel
theorem dX7_draft_30 : decode cX7_draft 30 = .ok (.iconst 1, 1) := by decide +kernel
theorem dX7_draft_31 : decode cX7_draft 31 = .ok (.iadd, 1) := by decide +kernel
theorem dX7_draft_32 : decode cX7_draft 32 = .ok (.putfield 22, 3) := by decide +kernel
theorem dX7_draft_35 : decode cX7_draft 35 = .ok (.return_, 1) := by decide +kernel
theorem dX7_keepDraft_0 : decode cX7_keepDraft 0 = .ok (.aload_n 0, 1) := by decide +kernel
theorem dX7_keepDraft_1 : decode cX7_keepDraft 1 = .ok (.aload_n 0, 1) := by decide +kernel
theorem dX7_keepDraft_2 : decode cX7_keepDraft 2 = .ok (.getfield 15, 3) := by decide +kernel
theorem dX7_keepDraft_5 : decode cX7_keepDraft 5 = .ok (.aload_n 0, 1) := by decide +kernel
theorem dX7_keepDraft_6 : decode cX7_keepDraft 6 = .ok (.getfield 22, 3) := by decide +kernel
theorem dX7_keepDraft_9 : decode cX7_keepDraft 9 = .ok (.iadd, 1) := by decide +kernel
theorem dX7_keepDraft_10 : decode cX7_keepDraft 10 = .ok (.sipush 8000, 3) := by decide +kernel
theorem dX7_keepDraft_13 : decode cX7_keepDraft 13 = .ok (.invokestatic 34, 3) := by decide +kernel
theorem dX7_keepDraft_16 : decode cX7_keepDraft 16 = .ok (.putfield 15, 3) := by decide +kernel
theorem dX7_keepDraft_19 : decode cX7_keepDraft 19 = .ok (.aload_n 0, 1) := by decide +kernel
theorem dX7_keepDraft_20 : decode cX7_keepDraft 20 = .ok (.iconst 0, 1) := by decide +kernel
theorem dX7_keepDraft_21 : decode cX7_keepDraft 21 = .ok (.putfield 22, 3) := by decide +kernel
theorem dX7_keepDraft_24 : decode cX7_keepDraft 24 = .ok (.return_, 1) := by decide +kernel
theorem dX7_startReading_0 : decode cX7_startReading 0 = .ok (.aload_n 0, 1) := by decide +kernel
theorem dX7_startReading_1 : decode cX7_startReading 1 = .ok (.aload_n 0, 1) := by decide +kernel
theorem dX7_startReading_2 : decode cX7_startReading 2 = .ok (.getfield 19, 3) := by decide +kernel
theorem dX7_startReading_5 : decode cX7_startReading 5 = .ok (.putfield 25, 3) := by decide +kernel
theorem dX7_startReading_8 : decode cX7_startReading 8 = .ok (.return_, 1) := by decide +kernel
set_option maxRecDepth 20000 in
theorem ggX7_next_X7_byteAt : GoodIn wsX7_next wsX7_byteAt := goodIn_r _ [6, 7, 8, 9, 10, 11, 12, 13, 14, 15] (by decide +kernel) (by decide +kernel)
set_option maxRecDepth 20000 in
theorem gX7_next_X7_byteAt : GoodIn wsX7_next (wsV RX7 40 RX7 yX7_byteAt wsX7_byteAt) := goodIn_app (goodIn_of _ (by decide +kernel)) ggX7_next_X7_byteAt
theorem dX7_next_0 : decode cX7_next 0 = .ok (.aload_n 0, 1) := by decide +kernel
theorem dX7_next_1 : decode cX7_next 1 = .ok (.aload_n 0, 1) := by decide +kernel
theorem dX7_next_2 : decode cX7_next 2 = .ok (.getfield 25, 3) := by decide +kernel
theorem dX7_next_5 : decode cX7_next 5 = .ok (.invokevirtual 40, 3) := by decide +kernel
theorem dX7_next_8 : decode cX7_next 8 = .ok (.istore_n 1, 1) := by decide +kernel
theorem dX7_next_9 : decode cX7_next 9 = .ok (.iload_n 1, 1) := by decide +kernel
theorem dX7_next_10 : decode cX7_next 10 = .ok (.iconst (-1), 1) := by decide +kernel
theorem dX7_next_11 : decode cX7_next 11 = .ok (.if_icmp .eq 13, 3) := by decide +kernel
theorem dX7_next_14 : decode cX7_next 14 = .ok (.aload_n 0, 1) := by decide +kernel
theorem dX7_next_15 : decode cX7_next 15 = .ok (.dup, 1) := by decide +kernel
theorem dX7_next_16 : decode cX7_next 16 = .ok (.getfield 25, 3) := by decide +kernel
theorem dX7_next_19 : decode cX7_next 19 = .ok (.iconst 1, 1) := by decide +kernel
theorem dX7_next_20 : decode cX7_next 20 = .ok (.iadd, 1) := by decide +kernel
theorem dX7_next_21 : decode cX7_next 21 = .ok (.putfield 25, 3) := by decide +kernel
theorem dX7_next_24 : decode cX7_next 24 = .ok (.iload_n 1, 1) := by decide +kernel
theorem dX7_next_25 : decode cX7_next 25 = .ok (.ireturn, 1) := by decide +kernel
theorem dX7_keepReading_0 : decode cX7_keepReading 0 = .ok (.aload_n 0, 1) := by decide +kernel
theorem dX7_keepReading_1 : decode cX7_keepReading 1 = .ok (.getfield 25, 3) := by decide +kernel
theorem dX7_keepReading_4 : decode cX7_keepReading 4 = .ok (.aload_n 0, 1) := by decide +kernel
theorem dX7_keepReading_5 : decode cX7_keepReading 5 = .ok (.getfield 19, 3) := by decide +kernel
theorem dX7_keepReading_8 : decode cX7_keepReading 8 = .ok (.isub, 1) := by decide +kernel
theorem dX7_keepReading_9 : decode cX7_keepReading 9 = .ok (.istore_n 1, 1) := by decide +kernel
theorem dX7_keepReading_10 : decode cX7_keepReading 10 = .ok (.aload_n 0, 1) := by decide +kernel
theorem dX7_keepReading_11 : decode cX7_keepReading 11 = .ok (.aload_n 0, 1) := by decide +kernel
theorem dX7_keepReading_12 : decode cX7_keepReading 12 = .ok (.getfield 25, 3) := by decide +kernel
theorem dX7_keepReading_15 : decode cX7_keepReading 15 = .ok (.putfield 19, 3) := by decide +kernel
theorem dX7_keepReading_18 : decode cX7_keepReading 18 = .ok (.iload_n 1, 1) := by decide +kernel
theorem dX7_keepReading_19 : decode cX7_keepReading 19 = .ok (.ireturn, 1) := by decide +kernel
theorem dX7_fail_0 : decode cX7_fail 0 = .ok (.aload_n 0, 1) := by decide +kernel
theorem dX7_fail_1 : decode cX7_fail 1 = .ok (.iload_n 1, 1) := by decide +kernel
theorem dX7_fail_2 : decode cX7_fail 2 = .ok (.putfield 28, 3) := by decide +kernel
theorem dX7_fail_5 : decode cX7_fail 5 = .ok (.aload_n 0, 1) := by decide +kernel
theorem dX7_fail_6 : decode cX7_fail 6 = .ok (.iload_n 2, 1) := by decide +kernel
theorem dX7_fail_7 : decode cX7_fail 7 = .ok (.putfield 31, 3) := by decide +kernel
theorem dX7_fail_10 : decode cX7_fail 10 = .ok (.iconst 0, 1) := by decide +kernel
theorem dX7_fail_11 : decode cX7_fail 11 = .ok (.ireturn, 1) := by decide +kernel
theorem dX8_init_0 : decode cX8_init 0 = .ok (.aload_n 0, 1) := by decide +kernel
theorem dX8_init_1 : decode cX8_init 1 = .ok (.invokespecial 3, 3) := by decide +kernel
theorem dX8_init_4 : decode cX8_init 4 = .ok (.aload_n 0, 1) := by decide +kernel
theorem dX8_init_5 : decode cX8_init 5 = .ok (.iload_n 1, 1) := by decide +kernel
theorem dX8_init_6 : decode cX8_init 6 = .ok (.putfield 9, 3) := by decide +kernel
theorem dX8_init_9 : decode cX8_init 9 = .ok (.return_, 1) := by decide +kernel
theorem dX8_trait_0 : decode cX8_trait 0 = .ok (.iconst (-1), 1) := by decide +kernel
theorem dX8_trait_1 : decode cX8_trait 1 = .ok (.ireturn, 1) := by decide +kernel
set_option maxRecDepth 20000 in
theorem ggX9_init_X2_init : GoodIn wsX9_init wsX2_init := goodIn_r _ [22, 23, 2, 3, 24, 25, 26, 27, 28, 29, 30, 31, 32, 33, 34, 35, 36, 37, 38, 39, 40, 41, 42, 43, 44, 45, 46, 47, 48, 49, 7, 50, 51, 52, 53, 54, 55, 56, 57, 58, 59, 86, 87, 88, 89, 90, 91, 92, 77, 78, 79, 93, 94, 95, 96, 97, 98, 99] (by decide +kernel) (by decide +kernel)
set_option maxRecDepth 20000 in
theorem gX9_init_X2_init : GoodIn wsX9_init (wsX2_init) := ggX9_init_X2_init
set_option maxRecDepth 20000 in
theorem ggX9_init_X6_init : GoodIn wsX9_init wsX6_init := goodIn_r _ [61, 62, 2, 3, 7, 63, 64, 65, 66, 67, 68, 80, 81, 82, 83, 84, 85] (by decide +kernel) (by decide +kernel)
set_option maxRecDepth 20000 in
theorem gX9_init_X6_init_n38 : GoodIn wsX9_init (wsX6_init) := ggX9_init_X6_init
theorem dX9_init_0 : decode cX9_init 0 = .ok (.aload_n 0, 1) := by decide +kernel
theorem dX9_init_1 : decode cX9_init 1 = .ok (.invokespecial 1, 3) := by decide +kernel
theorem dX9_init_4 : decode cX9_init 4 = .ok (.aload_n 0, 1) := by decide +kernel
theorem dX9_init_5 : decode cX9_init 5 = .ok (.bipush 40, 2) := by decide +kernel
theorem dX9_init_7 : decode cX9_init 7 = .ok (.anewarray 9, 3) := by decide +kernel
theorem dX9_init_10 : decode cX9_init 10 = .ok (.putfield 11, 3) := by decide +kernel
theorem dX9_init_13 : decode cX9_init 13 = .ok (.aload_n 0, 1) := by decide +kernel
theorem dX9_init_14 : decode cX9_init 14 = .ok (.iconst 0, 1) := by decide +kernel
theorem dX9_init_15 : decode cX9_init 15 = .ok (.putfield 15, 3) := by decide +kernel
theorem dX9_init_18 : decode cX9_init 18 = .ok (.aload_n 0, 1) := by decide +kernel
theorem dX9_init_19 : decode cX9_init 19 = .ok (.sipush 400, 3) := by decide +kernel
theorem dX9_init_22 : decode cX9_init 22 = .ok (.newarray .int, 2) := by decide +kernel
theorem dX9_init_24 : decode cX9_init 24 = .ok (.putfield 19, 3) := by decide +kernel
theorem dX9_init_27 : decode cX9_init 27 = .ok (.aload_n 0, 1) := by decide +kernel
theorem dX9_init_28 : decode cX9_init 28 = .ok (.iconst 0, 1) := by decide +kernel
theorem dX9_init_29 : decode cX9_init 29 = .ok (.putfield 23, 3) := by decide +kernel
theorem dX9_init_32 : decode cX9_init 32 = .ok (.aload_n 0, 1) := by decide +kernel
theorem dX9_init_33 : decode cX9_init 33 = .ok (.sipush 400, 3) := by decide +kernel
theorem dX9_init_36 : decode cX9_init 36 = .ok (.newarray .int, 2) := by decide +kernel
theorem dX9_init_38 : decode cX9_init 38 = .ok (.putfield 26, 3) := by decide +kernel
theorem dX9_init_41 : decode cX9_init 41 = .ok (.aload_n 0, 1) := by decide +kernel
theorem dX9_init_42 : decode cX9_init 42 = .ok (.new 29, 3) := by decide +kernel
theorem dX9_init_45 : decode cX9_init 45 = .ok (.dup, 1) := by decide +kernel
theorem dX9_init_46 : decode cX9_init 46 = .ok (.invokespecial 31, 3) := by decide +kernel
theorem dX9_init_49 : decode cX9_init 49 = .ok (.putfield 32, 3) := by decide +kernel
theorem dX9_init_52 : decode cX9_init 52 = .ok (.aload_n 0, 1) := by decide +kernel
theorem dX9_init_53 : decode cX9_init 53 = .ok (.new 36, 3) := by decide +kernel
theorem dX9_init_56 : decode cX9_init 56 = .ok (.dup, 1) := by decide +kernel
theorem dX9_init_57 : decode cX9_init 57 = .ok (.invokespecial 38, 3) := by decide +kernel
theorem dX9_init_60 : decode cX9_init 60 = .ok (.putfield 39, 3) := by decide +kernel
theorem dX9_init_63 : decode cX9_init 63 = .ok (.aload_n 0, 1) := by decide +kernel
theorem dX9_init_64 : decode cX9_init 64 = .ok (.iconst (-1), 1) := by decide +kernel
theorem dX9_init_65 : decode cX9_init 65 = .ok (.putfield 43, 3) := by decide +kernel
theorem dX9_init_68 : decode cX9_init 68 = .ok (.return_, 1) := by decide +kernel
set_option maxRecDepth 20000 in
theorem ggX9_coding_X9_checkRange : GoodIn wsX9_coding wsX9_checkRange := goodIn_ca (goodIn_r _ [7, 8, 9] (by decide +kernel) (by decide +kernel)) (goodIn_sub (fun _ h => List.mem_cons_of_mem _ (List.mem_append_left _ (List.mem_append_right _ h))) (by decide +kernel))
set_option maxRecDepth 20000 in
theorem gX9_coding_X9_checkRange : GoodIn wsX9_coding (va_wsS RX9 46 yX9_checkRange wsX9_checkRange) := goodIn_app (goodIn_of _ (by decide +kernel)) ggX9_coding_X9_checkRange
set_option maxRecDepth 20000 in
theorem ggX9_coding_X9_checkRoomForWay : GoodIn wsX9_coding wsX9_checkRoomForWay := goodIn_ca (goodIn_r _ [13, 14, 15, 16, 44, 45, 46, 47, 48, 49, 50, 51] (by decide +kernel) (by decide +kernel)) (goodIn_sub (fun _ h => List.mem_cons_of_mem _ (List.mem_append_right _ h)) (by decide +kernel))
set_option maxRecDepth 20000 in
theorem gX9_coding_X9_checkRoomForWay : GoodIn wsX9_coding (wsV RX9 50 RX9 yX9_checkRoomForWay wsX9_checkRoomForWay) := goodIn_app (goodIn_of _ (by decide +kernel)) ggX9_coding_X9_checkRoomForWay
set_option maxRecDepth 20000 in
theorem ggX9_coding_X1_init : GoodIn wsX9_coding wsX1_init := goodIn_r _ [19, 20, 21, 22, 23, 24, 25, 26, 27, 28, 29, 30, 31, 32, 38, 39, 40, 41, 42, 43, 52, 53, 54, 55, 56, 57, 58, 59, 60] (by decide +kernel) (by decide +kernel)
set_option maxRecDepth 20000 in
theorem gX9_coding_X1_init : GoodIn wsX9_coding (wsX1_init) := ggX9_coding_X1_init
set_option maxRecDepth 20000 in
theorem ggX9_coding_X9_addWay : GoodIn wsX9_coding wsX9_addWay := goodIn_r _ [36, 37, 16, 44, 45, 46, 47, 48, 49, 50, 51] (by decide +kernel) (by decide +kernel)
set_option maxRecDepth 20000 in
theorem gX9_coding_X9_addWay : GoodIn wsX9_coding (wsV RX9 59 RX9 yX9_addWay wsX9_addWay) := goodIn_app (goodIn_of _ (by decide +kernel)) ggX9_coding_X9_addWay
theorem dX9_coding_0 : decode cX9_coding 0 = .ok (.iload_n 1, 1) := by decide +kernel
theorem dX9_coding_1 : decode cX9_coding 1 = .ok (.iconst 1, 1) := by decide +kernel
theorem dX9_coding_2 : decode cX9_coding 2 = .ok (.iconst 5, 1) := by decide +kernel
theorem dX9_coding_3 : decode cX9_coding 3 = .ok (.invokestatic 46, 3) := by decide +kernel
theorem dX9_coding_6 : decode cX9_coding 6 = .ok (.iload_n 2, 1) := by decide +kernel
theorem dX9_coding_7 : decode cX9_coding 7 = .ok (.iconst 1, 1) := by decide +kernel
theorem dX9_coding_8 : decode cX9_coding 8 = .ok (.sipush 256, 3) := by decide +kernel
theorem dX9_coding_11 : decode cX9_coding 11 = .ok (.invokestatic 46, 3) := by decide +kernel
theorem dX9_coding_14 : decode cX9_coding 14 = .ok (.iload_n 3, 1) := by decide +kernel
theorem dX9_coding_15 : decode cX9_coding 15 = .ok (.iconst 0, 1) := by decide +kernel
theorem dX9_coding_16 : decode cX9_coding 16 = .ok (.iconst 2, 1) := by decide +kernel
theorem dX9_coding_17 : decode cX9_coding 17 = .ok (.invokestatic 46, 3) := by decide +kernel
theorem dX9_coding_20 : decode cX9_coding 20 = .ok (.iload 4, 2) := by decide +kernel
theorem dX9_coding_22 : decode cX9_coding 22 = .ok (.iconst 0, 1) := by decide +kernel
theorem dX9_coding_23 : decode cX9_coding 23 = .ok (.iconst 1, 1) := by decide +kernel
theorem dX9_coding_24 : decode cX9_coding 24 = .ok (.invokestatic 46, 3) := by decide +kernel
theorem dX9_coding_27 : decode cX9_coding 27 = .ok (.aload_n 0, 1) := by decide +kernel
theorem dX9_coding_28 : decode cX9_coding 28 = .ok (.iconst 0, 1) := by decide +kernel
theorem dX9_coding_29 : decode cX9_coding 29 = .ok (.invokevirtual 50, 3) := by decide +kernel
theorem dX9_coding_32 : decode cX9_coding 32 = .ok (.aload_n 0, 1) := by decide +kernel
theorem dX9_coding_33 : decode cX9_coding 33 = .ok (.new 54, 3) := by decide +kernel
theorem dX9_coding_36 : decode cX9_coding 36 = .ok (.dup, 1) := by decide +kernel
theorem dX9_coding_37 : decode cX9_coding 37 = .ok (.iload_n 1, 1) := by decide +kernel
theorem dX9_coding_38 : decode cX9_coding 38 = .ok (.iload_n 2, 1) := by decide +kernel
theorem dX9_coding_39 : decode cX9_coding 39 = .ok (.iload_n 3, 1) := by decide +kernel
theorem dX9_coding_40 : decode cX9_coding 40 = .ok (.iload 4, 2) := by decide +kernel
theorem dX9_coding_42 : decode cX9_coding 42 = .ok (.invokespecial 56, 3) := by decide +kernel
theorem dX9_coding_45 : decode cX9_coding 45 = .ok (.invokevirtual 59, 3) := by decide +kernel
theorem dX9_coding_48 : decode cX9_coding 48 = .ok (.ireturn, 1) := by decide +kernel
set_option maxRecDepth 20000 in
theorem ggX9_run_X9_checkRange : GoodIn wsX9_run wsX9_checkRange := goodIn_ca (goodIn_r _ [12, 13, 14] (by decide +kernel) (by decide +kernel)) (goodIn_sub (fun _ h => List.mem_cons_of_mem _ (List.mem_append_left _ (List.mem_append_right _ h))) (by decide +kernel))
set_option maxRecDepth 20000 in
theorem gX9_run_X9_checkRange : GoodIn wsX9_run (va_wsS RX9 46 yX9_checkRange wsX9_checkRange) := goodIn_app (goodIn_of _ (by decide +kernel)) ggX9_run_X9_checkRange
set_option maxRecDepth 20000 in
theorem ggX9_run_X9_wayAt : GoodIn wsX9_run wsX9_wayAt := goodIn_ca (goodIn_r _ [18, 19, 20, 9, 10, 11, 12, 13, 14, 60, 61, 62, 63, 64, 65, 66, 67] (by decide +kernel) (by decide +kernel)) (goodIn_sub (fun _ h => List.mem_cons_of_mem _ (List.mem_append_left _ (List.mem_append_right _ h))) (by decide +kernel))
set_option maxRecDepth 20000 in
theorem gX9_run_X9_wayAt : GoodIn wsX9_run (wsV RX9 63 RX9 yX9_wayAt wsX9_wayAt) := goodIn_app (goodIn_of _ (by decide +kernel)) ggX9_run_X9_wayAt
set_option maxRecDepth 20000 in
theorem ggX9_run_X9_checkRoomForWay : GoodIn wsX9_run wsX9_checkRoomForWay := goodIn_ca (goodIn_r _ [24, 25, 26, 19, 60, 61, 62, 63, 64, 65, 66, 67] (by decide +kernel) (by decide +kernel)) (goodIn_sub (fun _ h => List.mem_cons_of_mem _ (List.mem_append_right _ h)) (by decide +kernel))
set_option maxRecDepth 20000 in
theorem gX9_run_X9_checkRoomForWay : GoodIn wsX9_run (wsV RX9 50 RX9 yX9_checkRoomForWay wsX9_checkRoomForWay) := goodIn_app (goodIn_of _ (by decide +kernel)) ggX9_run_X9_checkRoomForWay
set_option maxRecDepth 20000 in
theorem ggX9_run_X5_init : GoodIn wsX9_run wsX5_init := goodIn_r _ [29, 30, 31, 32, 33, 34, 35, 36, 37, 38, 39, 40, 56, 57, 58, 59, 45, 46, 47, 48, 49, 50, 51, 52, 53, 54, 55] (by decide +kernel) (by decide +kernel)
set_option maxRecDepth 20000 in
theorem gX9_run_X5_init : GoodIn wsX9_run (wsX5_init) := ggX9_run_X5_init
set_option maxRecDepth 20000 in
theorem ggX9_run_X9_addWay : GoodIn wsX9_run wsX9_addWay := goodIn_r _ [44, 20, 19, 60, 61, 62, 63, 64, 65, 66, 67] (by decide +kernel) (by decide +kernel)
set_option maxRecDepth 20000 in
theorem gX9_run_X9_addWay : GoodIn wsX9_run (wsV RX9 59 RX9 yX9_addWay wsX9_addWay) := goodIn_app (goodIn_of _ (by decide +kernel)) ggX9_run_X9_addWay
theorem dX9_run_0 : decode cX9_run 0 = .ok (.iload_n 1, 1) := by decide +kernel
theorem dX9_run_1 : decode cX9_run 1 = .ok (.iconst 0, 1) := by decide +kernel
theorem dX9_run_2 : decode cX9_run 2 = .ok (.sipush 400, 3) := by decide +kernel
theorem dX9_run_5 : decode cX9_run 5 = .ok (.invokestatic 46, 3) := by decide +kernel
theorem dX9_run_8 : decode cX9_run 8 = .ok (.aload_n 0, 1) := by decide +kernel
theorem dX9_run_9 : decode cX9_run 9 = .ok (.iload_n 2, 1) := by decide +kernel
theorem dX9_run_10 : decode cX9_run 10 = .ok (.invokevirtual 63, 3) := by decide +kernel
theorem dX9_run_13 : decode cX9_run 13 = .ok (.astore 4, 2) := by decide +kernel
theorem dX9_run_15 : decode cX9_run 15 = .ok (.aload_n 0, 1) := by decide +kernel
theorem dX9_run_16 : decode cX9_run 16 = .ok (.iload_n 3, 1) := by decide +kernel
theorem dX9_run_17 : decode cX9_run 17 = .ok (.invokevirtual 63, 3) := by decide +kernel
theorem dX9_run_20 : decode cX9_run 20 = .ok (.astore 5, 2) := by decide +kernel
theorem dX9_run_22 : decode cX9_run 22 = .ok (.iconst 1, 1) := by decide +kernel
theorem dX9_run_23 : decode cX9_run 23 = .ok (.aload 4, 2) := by decide +kernel
theorem dX9_run_25 : decode cX9_run 25 = .ok (.getfield 67, 3) := by decide +kernel
theorem dX9_run_28 : decode cX9_run 28 = .ok (.aload 5, 2) := by decide +kernel
theorem dX9_run_30 : decode cX9_run 30 = .ok (.getfield 67, 3) := by decide +kernel
theorem dX9_run_33 : decode cX9_run 33 = .ok (.invokestatic 70, 3) := by decide +kernel
theorem dX9_run_36 : decode cX9_run 36 = .ok (.iadd, 1) := by decide +kernel
theorem dX9_run_37 : decode cX9_run 37 = .ok (.istore 6, 2) := by decide +kernel
theorem dX9_run_39 : decode cX9_run 39 = .ok (.aload_n 0, 1) := by decide +kernel
theorem dX9_run_40 : decode cX9_run 40 = .ok (.iload 6, 2) := by decide +kernel
theorem dX9_run_42 : decode cX9_run 42 = .ok (.invokevirtual 50, 3) := by decide +kernel
theorem dX9_run_45 : decode cX9_run 45 = .ok (.aload_n 0, 1) := by decide +kernel
theorem dX9_run_46 : decode cX9_run 46 = .ok (.new 76, 3) := by decide +kernel
theorem dX9_run_49 : decode cX9_run 49 = .ok (.dup, 1) := by decide +kernel
theorem dX9_run_50 : decode cX9_run 50 = .ok (.iload 6, 2) := by decide +kernel
theorem dX9_run_52 : decode cX9_run 52 = .ok (.iload_n 1, 1) := by decide +kernel
theorem dX9_run_53 : decode cX9_run 53 = .ok (.aload 4, 2) := by decide +kernel
theorem dX9_run_55 : decode cX9_run 55 = .ok (.aload 5, 2) := by decide +kernel
theorem dX9_run_57 : decode cX9_run 57 = .ok (.invokespecial 78, 3) := by decide +kernel
theorem dX9_run_60 : decode cX9_run 60 = .ok (.invokevirtual 59, 3) := by decide +kernel
theorem dX9_run_63 : decode cX9_run 63 = .ok (.ireturn, 1) := by decide +kernel
set_option maxRecDepth 20000 in
theorem ggX9_popular_X9_checkRange : GoodIn wsX9_popular wsX9_checkRange := goodIn_ca (goodIn_r _ [12, 13, 14] (by decide +kernel) (by decide +kernel)) (goodIn_sub (fun _ h => List.mem_cons_of_mem _ (List.mem_append_left _ (List.mem_append_right _ h))) (by decide +kernel))
set_option maxRecDepth 20000 in
theorem gX9_popular_X9_checkRange : GoodIn wsX9_popular (va_wsS RX9 46 yX9_checkRange wsX9_checkRange) := goodIn_app (goodIn_of _ (by decide +kernel)) ggX9_popular_X9_checkRange
set_option maxRecDepth 20000 in
theorem ggX9_popular_X9_wayAt : GoodIn wsX9_popular wsX9_wayAt := goodIn_ca (goodIn_r _ [18, 19, 20, 9, 10, 11, 12, 13, 14, 61, 62, 63, 64, 65, 66, 67, 68] (by decide +kernel) (by decide +kernel)) (goodIn_sub (fun _ h => List.mem_cons_of_mem _ (List.mem_append_left _ (List.mem_append_right _ h))) (by decide +kernel))
set_option maxRecDepth 20000 in
theorem gX9_popular_X9_wayAt : GoodIn wsX9_popular (wsV RX9 63 RX9 yX9_wayAt wsX9_wayAt) := goodIn_app (goodIn_of _ (by decide +kernel)) ggX9_popular_X9_wayAt
set_option maxRecDepth 20000 in
theorem ggX9_popular_X9_checkRoomForWay : GoodIn wsX9_popular wsX9_checkRoomForWay := goodIn_ca (goodIn_r _ [24, 25, 26, 19, 61, 62, 63, 64, 65, 66, 67, 68] (by decide +kernel) (by decide +kernel)) (goodIn_sub (fun _ h => List.mem_cons_of_mem _ (List.mem_append_right _ h)) (by decide +kernel))
set_option maxRecDepth 20000 in
theorem gX9_popular_X9_checkRoomForWay : GoodIn wsX9_popular (wsV RX9 50 RX9 yX9_checkRoomForWay wsX9_checkRoomForWay) := goodIn_app (goodIn_of _ (by decide +kernel)) ggX9_popular_X9_checkRoomForWay
set_option maxRecDepth 20000 in
theorem ggX9_popular_X4_init : GoodIn wsX9_popular wsX4_init := goodIn_r _ [29, 30, 31, 32, 33, 34, 35, 36, 37, 38, 39, 40, 41, 52, 53, 54, 55, 56, 46, 47, 48, 49, 50, 51, 57, 58, 59, 60] (by decide +kernel) (by decide +kernel)
set_option maxRecDepth 20000 in
theorem gX9_popular_X4_init : GoodIn wsX9_popular (wsX4_init) := ggX9_popular_X4_init
set_option maxRecDepth 20000 in
theorem ggX9_popular_X9_addWay : GoodIn wsX9_popular wsX9_addWay := goodIn_r _ [45, 20, 19, 61, 62, 63, 64, 65, 66, 67, 68] (by decide +kernel) (by decide +kernel)
set_option maxRecDepth 20000 in
theorem gX9_popular_X9_addWay : GoodIn wsX9_popular (wsV RX9 59 RX9 yX9_addWay wsX9_addWay) := goodIn_app (goodIn_of _ (by decide +kernel)) ggX9_popular_X9_addWay
theorem dX9_popular_0 : decode cX9_popular 0 = .ok (.iload_n 1, 1) := by decide +kernel
theorem dX9_popular_1 : decode cX9_popular 1 = .ok (.iconst 1, 1) := by decide +kernel
theorem dX9_popular_2 : decode cX9_popular 2 = .ok (.bipush 50, 2) := by decide +kernel
theorem dX9_popular_4 : decode cX9_popular 4 = .ok (.invokestatic 46, 3) := by decide +kernel
theorem dX9_popular_7 : decode cX9_popular 7 = .ok (.aload_n 0, 1) := by decide +kernel
theorem dX9_popular_8 : decode cX9_popular 8 = .ok (.iload_n 2, 1) := by decide +kernel
theorem dX9_popular_9 : decode cX9_popular 9 = .ok (.invokevirtual 63, 3) := by decide +kernel
theorem dX9_popular_12 : decode cX9_popular 12 = .ok (.astore 5, 2) := by decide +kernel
theorem dX9_popular_14 : decode cX9_popular 14 = .ok (.aload_n 0, 1) := by decide +kernel
theorem dX9_popular_15 : decode cX9_popular 15 = .ok (.iload_n 3, 1) := by decide +kernel
theorem dX9_popular_16 : decode cX9_popular 16 = .ok (.invokevirtual 63, 3) := by decide +kernel
theorem dX9_popular_19 : decode cX9_popular 19 = .ok (.astore 6, 2) := by decide +kernel
theorem dX9_popular_21 : decode cX9_popular 21 = .ok (.aload_n 0, 1) := by decide +kernel
theorem dX9_popular_22 : decode cX9_popular 22 = .ok (.iload 4, 2) := by decide +kernel
theorem dX9_popular_24 : decode cX9_popular 24 = .ok (.invokevirtual 63, 3) := by decide +kernel
theorem dX9_popular_27 : decode cX9_popular 27 = .ok (.astore 7, 2) := by decide +kernel
theorem dX9_popular_29 : decode cX9_popular 29 = .ok (.iconst 1, 1) := by decide +kernel
theorem dX9_popular_30 : decode cX9_popular 30 = .ok (.aload 5, 2) := by decide +kernel
theorem dX9_popular_32 : decode cX9_popular 32 = .ok (.getfield 67, 3) := by decide +kernel
theorem dX9_popular_35 : decode cX9_popular 35 = .ok (.aload 6, 2) := by decide +kernel
theorem dX9_popular_37 : decode cX9_popular 37 = .ok (.getfield 67, 3) := by decide +kernel
theorem dX9_popular_40 : decode cX9_popular 40 = .ok (.aload 7, 2) := by decide +kernel
theorem dX9_popular_42 : decode cX9_popular 42 = .ok (.getfield 67, 3) := by decide +kernel
theorem dX9_popular_45 : decode cX9_popular 45 = .ok (.invokestatic 70, 3) := by decide +kernel
theorem dX9_popular_48 : decode cX9_popular 48 = .ok (.invokestatic 70, 3) := by decide +kernel
theorem dX9_popular_51 : decode cX9_popular 51 = .ok (.iadd, 1) := by decide +kernel
theorem dX9_popular_52 : decode cX9_popular 52 = .ok (.istore 8, 2) := by decide +kernel
theorem dX9_popular_54 : decode cX9_popular 54 = .ok (.aload_n 0, 1) := by decide +kernel
theorem dX9_popular_55 : decode cX9_popular 55 = .ok (.iload 8, 2) := by decide +kernel
theorem dX9_popular_57 : decode cX9_popular 57 = .ok (.invokevirtual 50, 3) := by decide +kernel
theorem dX9_popular_60 : decode cX9_popular 60 = .ok (.aload_n 0, 1) := by decide +kernel
theorem dX9_popular_61 : decode cX9_popular 61 = .ok (.new 81, 3) := by decide +kernel
theorem dX9_popular_64 : decode cX9_popular 64 = .ok (.dup, 1) := by decide +kernel
theorem dX9_popular_65 : decode cX9_popular 65 = .ok (.iload 8, 2) := by decide +kernel
theorem dX9_popular_67 : decode cX9_popular 67 = .ok (.iload_n 1, 1) := by decide +kernel
theorem dX9_popular_68 : decode cX9_popular 68 = .ok (.aload 5, 2) := by decide +kernel
theorem dX9_popular_70 : decode cX9_popular 70 = .ok (.aload 6, 2) := by decide +kernel
theorem dX9_popular_72 : decode cX9_popular 72 = .ok (.aload 7, 2) := by decide +kernel
theorem dX9_popular_74 : decode cX9_popular 74 = .ok (.invokespecial 83, 3) := by decide +kernel
theorem dX9_popular_77 : decode cX9_popular 77 = .ok (.invokevirtual 59, 3) := by decide +kernel
theorem dX9_popular_80 : decode cX9_popular 80 = .ok (.ireturn, 1) := by decide +kernel
theorem dX9_number_0 : decode cX9_number 0 = .ok (.aload_n 0, 1) := by decide +kernel
theorem dX9_number_1 : decode cX9_number 1 = .ok (.getfield 23, 3) := by decide +kernel
theorem dX9_number_4 : decode cX9_number 4 = .ok (.sipush 400, 3) := by decide +kernel
theorem dX9_number_7 : decode cX9_number 7 = .ok (.if_icmp .lt 13, 3) := by decide +kernel
theorem dX9_number_10 : decode cX9_number 10 = .ok (.new 86, 3) := by decide +kernel
theorem dX9_number_13 : decode cX9_number 13 = .ok (.dup, 1) := by decide +kernel
theorem dX9_number_14 : decode cX9_number 14 = .ok (.ldc 88, 2) := by decide +kernel
theorem dX9_number_16 : decode cX9_number 16 = .ok (.invokespecial 90, 3) := by decide +kernel
theorem dX9_number_19 : decode cX9_number 19 = .ok (.athrow, 1) := by decide +kernel
theorem dX9_number_20 : decode cX9_number 20 = .ok (.aload_n 0, 1) := by decide +kernel
theorem dX9_number_21 : decode cX9_number 21 = .ok (.getfield 19, 3) := by decide +kernel
theorem dX9_number_24 : decode cX9_number 24 = .ok (.aload_n 0, 1) := by decide +kernel
theorem dX9_number_25 : decode cX9_number 25 = .ok (.getfield 23, 3) := by decide +kernel
theorem dX9_number_28 : decode cX9_number 28 = .ok (.iload_n 1, 1) := by decide +kernel
theorem dX9_number_29 : decode cX9_number 29 = .ok (.iastore, 1) := by decide +kernel
theorem dX9_number_30 : decode cX9_number 30 = .ok (.aload_n 0, 1) := by decide +kernel
theorem dX9_number_31 : decode cX9_number 31 = .ok (.dup, 1) := by decide +kernel
theorem dX9_number_32 : decode cX9_number 32 = .ok (.getfield 23, 3) := by decide +kernel
theorem dX9_number_35 : decode cX9_number 35 = .ok (.iconst 1, 1) := by decide +kernel
theorem dX9_number_36 : decode cX9_number 36 = .ok (.iadd, 1) := by decide +kernel
theorem dX9_number_37 : decode cX9_number 37 = .ok (.putfield 23, 3) := by decide +kernel
theorem dX9_number_40 : decode cX9_number 40 = .ok (.aload_n 0, 1) := by decide +kernel
theorem dX9_number_41 : decode cX9_number 41 = .ok (.getfield 23, 3) := by decide +kernel
theorem dX9_number_44 : decode cX9_number 44 = .ok (.ireturn, 1) := by decide +kernel
theorem dX9_clear_0 : decode cX9_clear 0 = .ok (.aload_n 0, 1) := by decide +kernel
theorem dX9_clear_1 : decode cX9_clear 1 = .ok (.getfield 23, 3) := by decide +kernel
theorem dX9_clear_4 : decode cX9_clear 4 = .ok (.istore_n 1, 1) := by decide +kernel
theorem dX9_clear_5 : decode cX9_clear 5 = .ok (.aload_n 0, 1) := by decide +kernel
theorem dX9_clear_6 : decode cX9_clear 6 = .ok (.iconst 0, 1) := by decide +kernel
theorem dX9_clear_7 : decode cX9_clear 7 = .ok (.putfield 23, 3) := by decide +kernel
theorem dX9_clear_10 : decode cX9_clear 10 = .ok (.iload_n 1, 1) := by decide +kernel
theorem dX9_clear_11 : decode cX9_clear 11 = .ok (.ireturn, 1) := by decide +kernel
theorem dX9_row_0 : decode cX9_row 0 = .ok (.iload_n 1, 1) := by decide +kernel
theorem dX9_row_1 : decode cX9_row 1 = .ok (.ifCond .lt 20, 3) := by decide +kernel
theorem dX9_row_4 : decode cX9_row 4 = .ok (.iload_n 1, 1) := by decide +kernel
theorem dX9_row_5 : decode cX9_row 5 = .ok (.aload_n 0, 1) := by decide +kernel
theorem dX9_row_6 : decode cX9_row 6 = .ok (.getfield 23, 3) := by decide +kernel
theorem dX9_row_9 : decode cX9_row 9 = .ok (.if_icmp .ge 12, 3) := by decide +kernel
theorem dX9_row_12 : decode cX9_row 12 = .ok (.aload_n 0, 1) := by decide +kernel
theorem dX9_row_13 : decode cX9_row 13 = .ok (.getfield 19, 3) := by decide +kernel
theorem dX9_row_16 : decode cX9_row 16 = .ok (.iload_n 1, 1) := by decide +kernel
theorem dX9_row_17 : decode cX9_row 17 = .ok (.iaload, 1) := by decide +kernel
theorem dX9_row_18 : decode cX9_row 18 = .ok (.goto 4, 3) := by decide +kernel
theorem dX9_row_21 : decode cX9_row 21 = .ok (.iconst 0, 1) := by decide +kernel
theorem dX9_row_22 : decode cX9_row 22 = .ok (.ireturn, 1) := by decide +kernel
set_option maxRecDepth 20000 in
theorem ggX9_cost_X9_wayAt : GoodIn wsX9_cost wsX9_wayAt := goodIn_ca (goodIn_r _ [5, 6, 7, 8, 9, 4, 10, 11, 12, 110, 111, 112, 113, 114, 115, 116, 117] (by decide +kernel) (by decide +kernel)) (goodIn_sub (fun _ h => List.mem_cons_of_mem _ (List.mem_append_right _ h)) (by decide +kernel))
set_option maxRecDepth 20000 in
theorem gX9_cost_X9_wayAt : GoodIn wsX9_cost (wsV RX9 63 RX9 yX9_wayAt wsX9_wayAt) := goodIn_app (goodIn_of _ (by decide +kernel)) ggX9_cost_X9_wayAt
set_option maxRecDepth 20000 in
theorem ggX9_cost_X9_draftRow : GoodIn wsX9_cost wsX9_draftRow := goodIn_r _ [16, 17, 18, 19, 20, 21, 22, 23, 24, 25, 26, 27, 28, 29, 30, 31, 32, 33, 34, 35, 36, 37, 38, 39, 40, 41, 42, 43, 44, 45, 46, 47, 48, 49, 50, 51, 52, 53, 54, 55, 56, 57, 58, 59, 60, 61, 62, 63, 64, 65, 66, 67, 68, 69, 70, 71, 72, 73, 74, 75, 76, 77, 78, 79, 80, 81, 82, 83, 84, 85, 86, 87, 88, 89, 90, 91, 92, 93, 94, 95, 96, 97, 98, 99, 100, 101, 102, 103, 104, 105, 106, 107, 108, 109, 110, 111, 112, 113, 114, 115, 116, 117, 118, 119, 120, 121, 122, 123, 124, 125, 126, 127, 128, 129, 130, 131, 132, 133, 134, 135, 136, 137, 138, 139, 140, 141, 142, 143, 144, 145, 146, 147, 148, 149] (by decide +kernel) (by decide +kernel)
set_option maxRecDepth 20000 in
theorem gX9_cost_X9_draftRow : GoodIn wsX9_cost (wsV RX9 93 RX9 yX9_draftRow wsX9_draftRow) := goodIn_app (goodIn_of _ (by decide +kernel)) ggX9_cost_X9_draftRow
theorem dX9_cost_0 : decode cX9_cost 0 = .ok (.aload_n 0, 1) := by decide +kernel
theorem dX9_cost_1 : decode cX9_cost 1 = .ok (.aload_n 0, 1) := by decide +kernel
theorem dX9_cost_2 : decode cX9_cost 2 = .ok (.iload_n 1, 1) := by decide +kernel
theorem dX9_cost_3 : decode cX9_cost 3 = .ok (.invokevirtual 63, 3) := by decide +kernel
theorem dX9_cost_6 : decode cX9_cost 6 = .ok (.invokevirtual 93, 3) := by decide +kernel
theorem dX9_cost_9 : decode cX9_cost 9 = .ok (.ireturn, 1) := by decide +kernel
set_option maxRecDepth 20000 in
theorem ggX9_pack_X9_wayAt : GoodIn wsX9_pack wsX9_wayAt := goodIn_ca (goodIn_r _ [6, 7, 8, 9, 10, 5, 11, 12, 13, 121, 122, 123, 124, 125, 126, 127, 128] (by decide +kernel) (by decide +kernel)) (goodIn_sub (fun _ h => List.mem_cons_of_mem _ (List.mem_append_left _ (List.mem_append_right _ h))) (by decide +kernel))
set_option maxRecDepth 20000 in
theorem gX9_pack_X9_wayAt : GoodIn wsX9_pack (wsV RX9 63 RX9 yX9_wayAt wsX9_wayAt) := goodIn_app (goodIn_of _ (by decide +kernel)) ggX9_pack_X9_wayAt
set_option maxRecDepth 20000 in
theorem ggX9_pack_X9_draftRow : GoodIn wsX9_pack wsX9_draftRow := goodIn_r _ [17, 1, 18, 19, 20, 21, 22, 23, 24, 25, 26, 27, 28, 29, 30, 31, 32, 33, 34, 35, 36, 37, 38, 39, 40, 41, 42, 43, 44, 45, 46, 47, 48, 49, 50, 51, 52, 53, 54, 55, 56, 57, 58, 59, 60, 61, 62, 63, 64, 65, 66, 67, 68, 69, 70, 71, 72, 73, 74, 75, 76, 77, 78, 79, 80, 81, 82, 83, 84, 85, 86, 87, 88, 89, 90, 91, 92, 93, 94, 95, 96, 97, 98, 99, 100, 101, 102, 103, 104, 105, 106, 107, 108, 109, 121, 122, 123, 124, 125, 126, 127, 128, 129, 130, 131, 132, 133, 134, 135, 136, 137, 138, 139, 140, 141, 142, 143, 144, 145, 146, 147, 148, 149, 150, 151, 152, 153, 154, 155, 156, 157, 158, 159, 160] (by decide +kernel) (by decide +kernel)
set_option maxRecDepth 20000 in
theorem gX9_pack_X9_draftRow : GoodIn wsX9_pack (wsV RX9 93 RX9 yX9_draftRow wsX9_draftRow) := goodIn_app (goodIn_of _ (by decide +kernel)) ggX9_pack_X9_draftRow
set_option maxRecDepth 20000 in
theorem ggX9_pack_X9_checkRoomOnTape : GoodIn wsX9_pack wsX9_checkRoomOnTape := goodIn_ca (goodIn_r _ [113, 114, 115, 1, 121, 122, 123, 124, 125, 126, 127, 128, 129, 130, 131, 132, 133, 134, 135, 136, 137, 138] (by decide +kernel) (by decide +kernel)) (goodIn_sub (fun _ h => List.mem_cons_of_mem _ (List.mem_append_right _ h)) (by decide +kernel))
set_option maxRecDepth 20000 in
theorem gX9_pack_X9_checkRoomOnTape : GoodIn wsX9_pack (wsV RX9 96 RX9 yX9_checkRoomOnTape wsX9_checkRoomOnTape) := goodIn_app (goodIn_of _ (by decide +kernel)) ggX9_pack_X9_checkRoomOnTape
set_option maxRecDepth 20000 in
theorem ggX9_pack_X7_keepDraft : GoodIn wsX9_pack wsX7_keepDraft := goodIn_r _ [119, 52, 25, 120, 105, 72, 106, 132, 133, 134, 135, 136, 137, 138] (by decide +kernel) (by decide +kernel)
set_option maxRecDepth 20000 in
theorem gX9_pack_X7_keepDraft : GoodIn wsX9_pack (wsV RX9 103 RX7 yX7_keepDraft wsX7_keepDraft) := goodIn_app (goodIn_of _ (by decide +kernel)) ggX9_pack_X7_keepDraft
theorem dX9_pack_0 : decode cX9_pack 0 = .ok (.aload_n 0, 1) := by decide +kernel
theorem dX9_pack_1 : decode cX9_pack 1 = .ok (.aload_n 0, 1) := by decide +kernel
theorem dX9_pack_2 : decode cX9_pack 2 = .ok (.iload_n 1, 1) := by decide +kernel
theorem dX9_pack_3 : decode cX9_pack 3 = .ok (.invokevirtual 63, 3) := by decide +kernel
theorem dX9_pack_6 : decode cX9_pack 6 = .ok (.invokevirtual 93, 3) := by decide +kernel
theorem dX9_pack_9 : decode cX9_pack 9 = .ok (.istore_n 2, 1) := by decide +kernel
theorem dX9_pack_10 : decode cX9_pack 10 = .ok (.iload_n 2, 1) := by decide +kernel
theorem dX9_pack_11 : decode cX9_pack 11 = .ok (.iconst (-1), 1) := by decide +kernel
theorem dX9_pack_12 : decode cX9_pack 12 = .ok (.if_icmp .ne 5, 3) := by decide +kernel
theorem dX9_pack_15 : decode cX9_pack 15 = .ok (.iconst (-1), 1) := by decide +kernel
theorem dX9_pack_16 : decode cX9_pack 16 = .ok (.ireturn, 1) := by decide +kernel
theorem dX9_pack_17 : decode cX9_pack 17 = .ok (.aload_n 0, 1) := by decide +kernel
theorem dX9_pack_18 : decode cX9_pack 18 = .ok (.iload_n 2, 1) := by decide +kernel
theorem dX9_pack_19 : decode cX9_pack 19 = .ok (.invokevirtual 96, 3) := by decide +kernel
theorem dX9_pack_22 : decode cX9_pack 22 = .ok (.aload_n 0, 1) := by decide +kernel
theorem dX9_pack_23 : decode cX9_pack 23 = .ok (.getfield 32, 3) := by decide +kernel
theorem dX9_pack_26 : decode cX9_pack 26 = .ok (.getfield 99, 3) := by decide +kernel
theorem dX9_pack_29 : decode cX9_pack 29 = .ok (.invokevirtual 103, 3) := by decide +kernel
theorem dX9_pack_32 : decode cX9_pack 32 = .ok (.iload_n 2, 1) := by decide +kernel
theorem dX9_pack_33 : decode cX9_pack 33 = .ok (.ireturn, 1) := by decide +kernel
set_option maxRecDepth 20000 in
theorem ggX9_unpack_X9_wayAt : GoodIn wsX9_unpack wsX9_wayAt := goodIn_ca (goodIn_r _ [14, 15, 16, 17, 18, 13, 19, 20, 21, 101, 102, 103, 104, 105, 106, 107, 108] (by decide +kernel) (by decide +kernel)) (goodIn_sub (fun _ h => List.mem_cons_of_mem _ (List.mem_append_right _ h)) (by decide +kernel))
set_option maxRecDepth 20000 in
theorem gX9_unpack_X9_wayAt : GoodIn wsX9_unpack (wsV RX9 63 RX9 yX9_wayAt wsX9_wayAt) := goodIn_app (goodIn_of _ (by decide +kernel)) ggX9_unpack_X9_wayAt
set_option maxRecDepth 20000 in
theorem ggX9_unpack_X9_checkRange : GoodIn wsX9_unpack wsX9_checkRange := goodIn_ca (goodIn_r _ [19, 20, 21] (by decide +kernel) (by decide +kernel)) (goodIn_sub (fun _ h => List.mem_cons_of_mem _ (List.mem_append_right _ h)) (by decide +kernel))
set_option maxRecDepth 20000 in
theorem gX9_unpack_X9_checkRange : GoodIn wsX9_unpack (va_wsS RX9 46 yX9_checkRange wsX9_checkRange) := goodIn_app (goodIn_of _ (by decide +kernel)) ggX9_unpack_X9_checkRange
set_option maxRecDepth 20000 in
theorem ggX9_unpack_X7_startReading : GoodIn wsX9_unpack wsX7_startReading := goodIn_r _ [26, 27, 28, 112, 113, 114, 115, 116, 117, 118] (by decide +kernel) (by decide +kernel)
set_option maxRecDepth 20000 in
theorem gX9_unpack_X7_startReading : GoodIn wsX9_unpack (wsV RX9 108 RX7 yX7_startReading wsX7_startReading) := goodIn_app (goodIn_of _ (by decide +kernel)) ggX9_unpack_X7_startReading
set_option maxRecDepth 20000 in
theorem ggX9_unpack_X1_read : GoodIn wsX9_unpack wsX1_read := goodIn_r _ [34, 35, 36, 37, 38, 39, 40, 33, 41, 42, 43, 44, 45, 46, 47, 25, 48, 28, 49, 50, 51, 52, 53, 54, 55, 56, 57, 58, 59, 60, 61, 62, 63, 64, 65, 66, 109, 110, 111, 112, 113, 114, 115, 116, 117, 118, 119, 120, 121, 122, 123, 124] (by decide +kernel) (by decide +kernel)
set_option maxRecDepth 20000 in
theorem gX9_unpack_X1_read_u111X1 : GoodIn wsX9_unpack (va_wsU RX9 111 RX1 "BandMill$Way" ⟨"BandMill$Way", "read", "(LBandMill$Desk;[III)Z"⟩ yX1_read wsX1_read) := goodIn_app (goodIn_of _ (by decide +kernel)) ggX9_unpack_X1_read
set_option maxRecDepth 20000 in
theorem ggX9_unpack_X4_read : GoodIn wsX9_unpack wsX4_read := goodIn_r _ [70, 71, 72, 73, 74, 75, 76, 77, 30, 31, 32, 33, 34, 35, 36, 37, 38, 39, 40, 41, 42, 43, 44, 45, 46, 47, 25, 48, 28, 49, 50, 51, 52, 53, 54, 55, 56, 57, 58, 59, 60, 61, 62, 63, 64, 65, 66, 67, 68, 69, 78, 79, 80, 81, 82, 83, 84, 85, 86, 87, 88, 89, 90, 91, 92, 93, 94, 95, 96, 109, 110, 111, 119, 120, 121, 122, 123, 124, 125, 126, 127, 128, 129, 130, 131, 132, 133, 112, 113, 114, 115, 116, 117, 118, 134, 135] (by decide +kernel) (by decide +kernel)
set_option maxRecDepth 20000 in
theorem gX9_unpack_X4_read_u111X4 : GoodIn wsX9_unpack (va_wsU RX9 111 RX4 "BandMill$Way" ⟨"BandMill$Way", "read", "(LBandMill$Desk;[III)Z"⟩ yX4_read wsX4_read) := goodIn_app (goodIn_of _ (by decide +kernel)) ggX9_unpack_X4_read
set_option maxRecDepth 20000 in
theorem ggX9_unpack_X5_read : GoodIn wsX9_unpack wsX5_read := goodIn_r _ [88, 89, 90, 91, 92, 93, 94, 95, 96, 30, 31, 32, 33, 34, 35, 36, 37, 38, 39, 40, 41, 42, 43, 44, 45, 46, 47, 25, 48, 28, 49, 50, 51, 52, 53, 54, 55, 56, 57, 58, 59, 60, 61, 62, 63, 64, 65, 66, 67, 68, 69, 78, 79, 80, 70, 71, 72, 73, 74, 75, 76, 77, 81, 82, 83, 84, 85, 86, 87, 109, 110, 111, 119, 120, 121, 122, 123, 124, 125, 126, 127, 128, 129, 130, 131, 132, 133, 112, 113, 114, 115, 116, 117, 118, 134, 135] (by decide +kernel) (by decide +kernel)
set_option maxRecDepth 20000 in
theorem gX9_unpack_X5_read_u111X5 : GoodIn wsX9_unpack (va_wsU RX9 111 RX5 "BandMill$Way" ⟨"BandMill$Way", "read", "(LBandMill$Desk;[III)Z"⟩ yX5_read wsX5_read) := goodIn_app (goodIn_of _ (by decide +kernel)) ggX9_unpack_X5_read
set_option maxRecDepth 20000 in
theorem ggX9_unpack_X7_keepReading : GoodIn wsX9_unpack wsX7_keepReading := goodIn_r _ [100, 28, 27, 112, 113, 114, 115, 116, 117, 118] (by decide +kernel) (by decide +kernel)
set_option maxRecDepth 20000 in
theorem gX9_unpack_X7_keepReading : GoodIn wsX9_unpack (wsV RX9 125 RX7 yX7_keepReading wsX7_keepReading) := goodIn_app (goodIn_of _ (by decide +kernel)) ggX9_unpack_X7_keepReading
theorem dX9_unpack_0 : decode cX9_unpack 0 = .ok (.aload_n 0, 1) := by decide +kernel
theorem dX9_unpack_1 : decode cX9_unpack 1 = .ok (.iload_n 1, 1) := by decide +kernel
theorem dX9_unpack_2 : decode cX9_unpack 2 = .ok (.invokevirtual 63, 3) := by decide +kernel
theorem dX9_unpack_5 : decode cX9_unpack 5 = .ok (.astore_n 3, 1) := by decide +kernel
theorem dX9_unpack_6 : decode cX9_unpack 6 = .ok (.iload_n 2, 1) := by decide +kernel
theorem dX9_unpack_7 : decode cX9_unpack 7 = .ok (.iconst 0, 1) := by decide +kernel
theorem dX9_unpack_8 : decode cX9_unpack 8 = .ok (.sipush 400, 3) := by decide +kernel
theorem dX9_unpack_11 : decode cX9_unpack 11 = .ok (.invokestatic 46, 3) := by decide +kernel
theorem dX9_unpack_14 : decode cX9_unpack 14 = .ok (.aload_n 0, 1) := by decide +kernel
theorem dX9_unpack_15 : decode cX9_unpack 15 = .ok (.getfield 32, 3) := by decide +kernel
theorem dX9_unpack_18 : decode cX9_unpack 18 = .ok (.getfield 99, 3) := by decide +kernel
theorem dX9_unpack_21 : decode cX9_unpack 21 = .ok (.astore 4, 2) := by decide +kernel
theorem dX9_unpack_23 : decode cX9_unpack 23 = .ok (.aload 4, 2) := by decide +kernel
theorem dX9_unpack_25 : decode cX9_unpack 25 = .ok (.invokevirtual 108, 3) := by decide +kernel
theorem dX9_unpack_28 : decode cX9_unpack 28 = .ok (.aload_n 3, 1) := by decide +kernel
theorem dX9_unpack_29 : decode cX9_unpack 29 = .ok (.aload_n 0, 1) := by decide +kernel
theorem dX9_unpack_30 : decode cX9_unpack 30 = .ok (.getfield 32, 3) := by decide +kernel
theorem dX9_unpack_33 : decode cX9_unpack 33 = .ok (.aload_n 0, 1) := by decide +kernel
theorem dX9_unpack_34 : decode cX9_unpack 34 = .ok (.getfield 26, 3) := by decide +kernel
theorem dX9_unpack_37 : decode cX9_unpack 37 = .ok (.iconst 0, 1) := by decide +kernel
theorem dX9_unpack_38 : decode cX9_unpack 38 = .ok (.iload_n 2, 1) := by decide +kernel
theorem dX9_unpack_39 : decode cX9_unpack 39 = .ok (.invokevirtual 111, 3) := by decide +kernel
theorem dX9_unpack_42 : decode cX9_unpack 42 = .ok (.ifCond .ne 19, 3) := by decide +kernel
theorem dX9_unpack_45 : decode cX9_unpack 45 = .ok (.aload_n 0, 1) := by decide +kernel
theorem dX9_unpack_46 : decode cX9_unpack 46 = .ok (.aload 4, 2) := by decide +kernel
theorem dX9_unpack_48 : decode cX9_unpack 48 = .ok (.getfield 115, 3) := by decide +kernel
theorem dX9_unpack_51 : decode cX9_unpack 51 = .ok (.putfield 43, 3) := by decide +kernel
theorem dX9_unpack_54 : decode cX9_unpack 54 = .ok (.aload 4, 2) := by decide +kernel
theorem dX9_unpack_56 : decode cX9_unpack 56 = .ok (.getfield 116, 3) := by decide +kernel
theorem dX9_unpack_59 : decode cX9_unpack 59 = .ok (.ineg, 1) := by decide +kernel
theorem dX9_unpack_60 : decode cX9_unpack 60 = .ok (.ireturn, 1) := by decide +kernel
theorem dX9_unpack_61 : decode cX9_unpack 61 = .ok (.aload_n 0, 1) := by decide +kernel
theorem dX9_unpack_62 : decode cX9_unpack 62 = .ok (.iconst (-1), 1) := by decide +kernel
theorem dX9_unpack_63 : decode cX9_unpack 63 = .ok (.putfield 43, 3) := by decide +kernel
theorem dX9_unpack_66 : decode cX9_unpack 66 = .ok (.aload_n 0, 1) := by decide +kernel
theorem dX9_unpack_67 : decode cX9_unpack 67 = .ok (.getfield 26, 3) := by decide +kernel
theorem dX9_unpack_70 : decode cX9_unpack 70 = .ok (.iconst 0, 1) := by decide +kernel
theorem dX9_unpack_71 : decode cX9_unpack 71 = .ok (.aload_n 0, 1) := by decide +kernel
theorem dX9_unpack_72 : decode cX9_unpack 72 = .ok (.getfield 19, 3) := by decide +kernel
theorem dX9_unpack_75 : decode cX9_unpack 75 = .ok (.iconst 0, 1) := by decide +kernel
theorem dX9_unpack_76 : decode cX9_unpack 76 = .ok (.iload_n 2, 1) := by decide +kernel
theorem dX9_unpack_77 : decode cX9_unpack 77 = .ok (.invokestatic 119, 3) := by decide +kernel
theorem dX9_unpack_80 : decode cX9_unpack 80 = .ok (.aload_n 0, 1) := by decide +kernel
theorem dX9_unpack_81 : decode cX9_unpack 81 = .ok (.iload_n 2, 1) := by decide +kernel
theorem dX9_unpack_82 : decode cX9_unpack 82 = .ok (.putfield 23, 3) := by decide +kernel
theorem dX9_unpack_85 : decode cX9_unpack 85 = .ok (.aload 4, 2) := by decide +kernel
theorem dX9_unpack_87 : decode cX9_unpack 87 = .ok (.invokevirtual 125, 3) := by decide +kernel
theorem dX9_unpack_90 : decode cX9_unpack 90 = .ok (.ireturn, 1) := by decide +kernel
theorem dX9_place_0 : decode cX9_place 0 = .ok (.aload_n 0, 1) := by decide +kernel
theorem dX9_place_1 : decode cX9_place 1 = .ok (.getfield 43, 3) := by decide +kernel
theorem dX9_place_4 : decode cX9_place 4 = .ok (.ireturn, 1) := by decide +kernel
set_option maxRecDepth 20000 in
theorem ggX9_best_X9_checkRange : GoodIn wsX9_best wsX9_checkRange := goodIn_ca (goodIn_r _ [6, 7, 8] (by decide +kernel) (by decide +kernel)) (goodIn_sub (fun _ h => List.mem_cons_of_mem _ (List.mem_append_right _ h)) (by decide +kernel))
set_option maxRecDepth 20000 in
theorem gX9_best_X9_checkRange : GoodIn wsX9_best (va_wsS RX9 46 yX9_checkRange wsX9_checkRange) := goodIn_app (goodIn_of _ (by decide +kernel)) ggX9_best_X9_checkRange
set_option maxRecDepth 20000 in
theorem ggX9_best_X9_draftRow : GoodIn wsX9_best wsX9_draftRow := goodIn_r _ [12, 13, 14, 15, 16, 17, 18, 19, 20, 21, 22, 23, 24, 25, 26, 27, 28, 29, 30, 31, 32, 33, 34, 35, 36, 37, 38, 39, 40, 41, 42, 43, 44, 45, 46, 47, 48, 49, 50, 51, 52, 53, 54, 55, 56, 57, 58, 59, 60, 61, 62, 63, 64, 65, 66, 67, 68, 69, 70, 71, 72, 73, 74, 75, 76, 77, 78, 79, 80, 81, 82, 83, 84, 85, 86, 87, 88, 89, 90, 91, 92, 93, 94, 95, 96, 97, 98, 99, 100, 101, 102, 103, 104, 105, 106, 107, 108, 109, 110, 111, 112, 113, 114, 115, 116, 117, 118, 119, 120, 121, 122, 123, 124, 125, 126, 127, 128, 129, 130, 131, 132, 133, 134, 135, 136, 137, 138, 139, 140, 141, 142, 143, 144, 145] (by decide +kernel) (by decide +kernel)
set_option maxRecDepth 20000 in
theorem gX9_best_X9_draftRow : GoodIn wsX9_best (wsV RX9 93 RX9 yX9_draftRow wsX9_draftRow) := goodIn_app (goodIn_of _ (by decide +kernel)) ggX9_best_X9_draftRow
theorem dX9_best_0 : decode cX9_best 0 = .ok (.iload_n 1, 1) := by decide +kernel
theorem dX9_best_1 : decode cX9_best 1 = .ok (.iconst 0, 1) := by decide +kernel
theorem dX9_best_2 : decode cX9_best 2 = .ok (.aload_n 0, 1) := by decide +kernel
theorem dX9_best_3 : decode cX9_best 3 = .ok (.getfield 15, 3) := by decide +kernel
theorem dX9_best_6 : decode cX9_best 6 = .ok (.iconst 1, 1) := by decide +kernel
theorem dX9_best_7 : decode cX9_best 7 = .ok (.isub, 1) := by decide +kernel
theorem dX9_best_8 : decode cX9_best 8 = .ok (.invokestatic 46, 3) := by decide +kernel
theorem dX9_best_11 : decode cX9_best 11 = .ok (.iload_n 2, 1) := by decide +kernel
theorem dX9_best_12 : decode cX9_best 12 = .ok (.iload_n 1, 1) := by decide +kernel
theorem dX9_best_13 : decode cX9_best 13 = .ok (.aload_n 0, 1) := by decide +kernel
theorem dX9_best_14 : decode cX9_best 14 = .ok (.getfield 15, 3) := by decide +kernel
theorem dX9_best_17 : decode cX9_best 17 = .ok (.iconst 1, 1) := by decide +kernel
theorem dX9_best_18 : decode cX9_best 18 = .ok (.isub, 1) := by decide +kernel
theorem dX9_best_19 : decode cX9_best 19 = .ok (.invokestatic 46, 3) := by decide +kernel
theorem dX9_best_22 : decode cX9_best 22 = .ok (.iconst (-1), 1) := by decide +kernel
theorem dX9_best_23 : decode cX9_best 23 = .ok (.istore_n 3, 1) := by decide +kernel
theorem dX9_best_24 : decode cX9_best 24 = .ok (.iconst (-1), 1) := by decide +kernel
theorem dX9_best_25 : decode cX9_best 25 = .ok (.istore 4, 2) := by decide +kernel
theorem dX9_best_27 : decode cX9_best 27 = .ok (.iload_n 1, 1) := by decide +kernel
theorem dX9_best_28 : decode cX9_best 28 = .ok (.istore 5, 2) := by decide +kernel
theorem dX9_best_30 : decode cX9_best 30 = .ok (.iload 5, 2) := by decide +kernel
theorem dX9_best_32 : decode cX9_best 32 = .ok (.iload_n 2, 1) := by decide +kernel
theorem dX9_best_33 : decode cX9_best 33 = .ok (.if_icmp .gt 48, 3) := by decide +kernel
theorem dX9_best_36 : decode cX9_best 36 = .ok (.aload_n 0, 1) := by decide +kernel
theorem dX9_best_37 : decode cX9_best 37 = .ok (.aload_n 0, 1) := by decide +kernel
theorem dX9_best_38 : decode cX9_best 38 = .ok (.getfield 11, 3) := by decide +kernel
theorem dX9_best_41 : decode cX9_best 41 = .ok (.iload 5, 2) := by decide +kernel
theorem dX9_best_43 : decode cX9_best 43 = .ok (.aaload, 1) := by decide +kernel
theorem dX9_best_44 : decode cX9_best 44 = .ok (.invokevirtual 93, 3) := by decide +kernel
theorem dX9_best_47 : decode cX9_best 47 = .ok (.istore 6, 2) := by decide +kernel
theorem dX9_best_49 : decode cX9_best 49 = .ok (.iload 6, 2) := by decide +kernel
theorem dX9_best_51 : decode cX9_best 51 = .ok (.iconst (-1), 1) := by decide +kernel
theorem dX9_best_52 : decode cX9_best 52 = .ok (.if_icmp .eq 23, 3) := by decide +kernel
theorem dX9_best_55 : decode cX9_best 55 = .ok (.iload 4, 2) := by decide +kernel
theorem dX9_best_57 : decode cX9_best 57 = .ok (.iconst (-1), 1) := by decide +kernel
theorem dX9_best_58 : decode cX9_best 58 = .ok (.if_icmp .eq 10, 3) := by decide +kernel
theorem dX9_best_61 : decode cX9_best 61 = .ok (.iload 6, 2) := by decide +kernel
theorem dX9_best_63 : decode cX9_best 63 = .ok (.iload 4, 2) := by decide +kernel
theorem dX9_best_65 : decode cX9_best 65 = .ok (.if_icmp .ge 10, 3) := by decide +kernel
theorem dX9_best_68 : decode cX9_best 68 = .ok (.iload 5, 2) := by decide +kernel
theorem dX9_best_70 : decode cX9_best 70 = .ok (.istore_n 3, 1) := by decide +kernel
theorem dX9_best_71 : decode cX9_best 71 = .ok (.iload 6, 2) := by decide +kernel
theorem dX9_best_73 : decode cX9_best 73 = .ok (.istore 4, 2) := by decide +kernel
theorem dX9_best_75 : decode cX9_best 75 = .ok (.iinc 5 1, 3) := by decide +kernel
theorem dX9_best_78 : decode cX9_best 78 = .ok (.goto (-48), 3) := by decide +kernel
theorem dX9_best_81 : decode cX9_best 81 = .ok (.iload_n 3, 1) := by decide +kernel
theorem dX9_best_82 : decode cX9_best 82 = .ok (.ireturn, 1) := by decide +kernel
set_option maxRecDepth 20000 in
theorem ggX9_bestRun_X6_startRow : GoodIn wsX9_bestRun wsX6_startRow := goodIn_r _ [11, 12, 13, 14, 15, 16, 17, 18, 67, 68, 69, 70, 71, 72] (by decide +kernel) (by decide +kernel)
set_option maxRecDepth 20000 in
theorem gX9_bestRun_X6_startRow : GoodIn wsX9_bestRun (wsV RX9 129 RX6 yX6_startRow wsX6_startRow) := goodIn_app (goodIn_of _ (by decide +kernel)) ggX9_bestRun_X6_startRow
set_option maxRecDepth 20000 in
theorem ggX9_bestRun_X6_weighHeads : GoodIn wsX9_bestRun wsX6_weighHeads := goodIn_r _ [22, 13, 12, 23, 24, 10, 25, 26, 27, 28, 29, 30, 31, 32, 33, 34, 35, 36, 37, 38, 39, 40, 41, 42, 43, 44, 45, 46, 47, 48, 49, 67, 68, 69, 70, 71, 72, 73, 74, 75, 76, 77, 78] (by decide +kernel) (by decide +kernel)
set_option maxRecDepth 20000 in
theorem gX9_bestRun_X6_weighHeads : GoodIn wsX9_bestRun (wsV RX9 132 RX6 yX6_weighHeads wsX6_weighHeads) := goodIn_app (goodIn_of _ (by decide +kernel)) ggX9_bestRun_X6_weighHeads
set_option maxRecDepth 20000 in
theorem ggX9_bestRun_X6_weighTails : GoodIn wsX9_bestRun wsX6_weighTails := goodIn_r _ [53, 15, 12, 23, 24, 10, 25, 26, 27, 28, 29, 30, 31, 32, 33, 34, 35, 36, 37, 38, 39, 40, 41, 42, 43, 44, 45, 46, 47, 48, 49, 67, 68, 69, 70, 71, 72, 73, 74, 75, 76, 77, 78] (by decide +kernel) (by decide +kernel)
set_option maxRecDepth 20000 in
theorem gX9_bestRun_X6_weighTails : GoodIn wsX9_bestRun (wsV RX9 136 RX6 yX6_weighTails wsX6_weighTails) := goodIn_app (goodIn_of _ (by decide +kernel)) ggX9_bestRun_X6_weighTails
set_option maxRecDepth 20000 in
theorem ggX9_bestRun_X6_choose : GoodIn wsX9_bestRun wsX6_choose := goodIn_r _ [57, 12, 13, 15, 58, 16, 17, 18, 67, 68, 69, 70, 71, 72] (by decide +kernel) (by decide +kernel)
set_option maxRecDepth 20000 in
theorem gX9_bestRun_X6_choose : GoodIn wsX9_bestRun (wsV RX9 139 RX6 yX6_choose wsX6_choose) := goodIn_app (goodIn_of _ (by decide +kernel)) ggX9_bestRun_X6_choose
theorem dX9_bestRun_0 : decode cX9_bestRun 0 = .ok (.aload_n 0, 1) := by decide +kernel
theorem dX9_bestRun_1 : decode cX9_bestRun 1 = .ok (.getfield 39, 3) := by decide +kernel
theorem dX9_bestRun_4 : decode cX9_bestRun 4 = .ok (.aload_n 0, 1) := by decide +kernel
theorem dX9_bestRun_5 : decode cX9_bestRun 5 = .ok (.getfield 23, 3) := by decide +kernel
theorem dX9_bestRun_8 : decode cX9_bestRun 8 = .ok (.invokevirtual 129, 3) := by decide +kernel
theorem dX9_bestRun_11 : decode cX9_bestRun 11 = .ok (.iconst 0, 1) := by decide +kernel
theorem dX9_bestRun_12 : decode cX9_bestRun 12 = .ok (.istore_n 1, 1) := by decide +kernel
theorem dX9_bestRun_13 : decode cX9_bestRun 13 = .ok (.iload_n 1, 1) := by decide +kernel
theorem dX9_bestRun_14 : decode cX9_bestRun 14 = .ok (.aload_n 0, 1) := by decide +kernel
theorem dX9_bestRun_15 : decode cX9_bestRun 15 = .ok (.getfield 15, 3) := by decide +kernel
theorem dX9_bestRun_18 : decode cX9_bestRun 18 = .ok (.if_icmp .ge 54, 3) := by decide +kernel
theorem dX9_bestRun_21 : decode cX9_bestRun 21 = .ok (.aload_n 0, 1) := by decide +kernel
theorem dX9_bestRun_22 : decode cX9_bestRun 22 = .ok (.getfield 11, 3) := by decide +kernel
theorem dX9_bestRun_25 : decode cX9_bestRun 25 = .ok (.iload_n 1, 1) := by decide +kernel
theorem dX9_bestRun_26 : decode cX9_bestRun 26 = .ok (.aaload, 1) := by decide +kernel
theorem dX9_bestRun_27 : decode cX9_bestRun 27 = .ok (.astore_n 3, 1) := by decide +kernel
theorem dX9_bestRun_28 : decode cX9_bestRun 28 = .ok (.aload_n 3, 1) := by decide +kernel
theorem dX9_bestRun_29 : decode cX9_bestRun 29 = .ok (.instanceof 54, 3) := by decide +kernel
theorem dX9_bestRun_32 : decode cX9_bestRun 32 = .ok (.ifCond .eq 34, 3) := by decide +kernel
theorem dX9_bestRun_35 : decode cX9_bestRun 35 = .ok (.aload_n 3, 1) := by decide +kernel
theorem dX9_bestRun_36 : decode cX9_bestRun 36 = .ok (.checkcast 54, 3) := by decide +kernel
theorem dX9_bestRun_39 : decode cX9_bestRun 39 = .ok (.astore_n 2, 1) := by decide +kernel
theorem dX9_bestRun_40 : decode cX9_bestRun 40 = .ok (.aload_n 0, 1) := by decide +kernel
theorem dX9_bestRun_41 : decode cX9_bestRun 41 = .ok (.getfield 39, 3) := by decide +kernel
theorem dX9_bestRun_44 : decode cX9_bestRun 44 = .ok (.aload_n 2, 1) := by decide +kernel
theorem dX9_bestRun_45 : decode cX9_bestRun 45 = .ok (.iload_n 1, 1) := by decide +kernel
theorem dX9_bestRun_46 : decode cX9_bestRun 46 = .ok (.aload_n 0, 1) := by decide +kernel
theorem dX9_bestRun_47 : decode cX9_bestRun 47 = .ok (.getfield 19, 3) := by decide +kernel
theorem dX9_bestRun_50 : decode cX9_bestRun 50 = .ok (.invokevirtual 132, 3) := by decide +kernel
theorem dX9_bestRun_53 : decode cX9_bestRun 53 = .ok (.aload_n 0, 1) := by decide +kernel
theorem dX9_bestRun_54 : decode cX9_bestRun 54 = .ok (.getfield 39, 3) := by decide +kernel
theorem dX9_bestRun_57 : decode cX9_bestRun 57 = .ok (.aload_n 2, 1) := by decide +kernel
theorem dX9_bestRun_58 : decode cX9_bestRun 58 = .ok (.iload_n 1, 1) := by decide +kernel
theorem dX9_bestRun_59 : decode cX9_bestRun 59 = .ok (.aload_n 0, 1) := by decide +kernel
theorem dX9_bestRun_60 : decode cX9_bestRun 60 = .ok (.getfield 19, 3) := by decide +kernel
theorem dX9_bestRun_63 : decode cX9_bestRun 63 = .ok (.invokevirtual 136, 3) := by decide +kernel
theorem dX9_bestRun_66 : decode cX9_bestRun 66 = .ok (.iinc 1 1, 3) := by decide +kernel
theorem dX9_bestRun_69 : decode cX9_bestRun 69 = .ok (.goto (-56), 3) := by decide +kernel
theorem dX9_bestRun_72 : decode cX9_bestRun 72 = .ok (.aload_n 0, 1) := by decide +kernel
theorem dX9_bestRun_73 : decode cX9_bestRun 73 = .ok (.getfield 39, 3) := by decide +kernel
theorem dX9_bestRun_76 : decode cX9_bestRun 76 = .ok (.invokevirtual 139, 3) := by decide +kernel
theorem dX9_bestRun_79 : decode cX9_bestRun 79 = .ok (.ireturn, 1) := by decide +kernel
theorem dX9_chosen_0 : decode cX9_chosen 0 = .ok (.iload_n 1, 1) := by decide +kernel
theorem dX9_chosen_1 : decode cX9_chosen 1 = .ok (.tableswitch 51 0 2 #[27, 35, 43], 27) := by decide +kernel
theorem dX9_chosen_28 : decode cX9_chosen 28 = .ok (.aload_n 0, 1) := by decide +kernel
theorem dX9_chosen_29 : decode cX9_chosen 29 = .ok (.getfield 39, 3) := by decide +kernel
theorem dX9_chosen_32 : decode cX9_chosen 32 = .ok (.getfield 142, 3) := by decide +kernel
theorem dX9_chosen_35 : decode cX9_chosen 35 = .ok (.ireturn, 1) := by decide +kernel
theorem dX9_chosen_36 : decode cX9_chosen 36 = .ok (.aload_n 0, 1) := by decide +kernel
theorem dX9_chosen_37 : decode cX9_chosen 37 = .ok (.getfield 39, 3) := by decide +kernel
theorem dX9_chosen_40 : decode cX9_chosen 40 = .ok (.getfield 145, 3) := by decide +kernel
theorem dX9_chosen_43 : decode cX9_chosen 43 = .ok (.ireturn, 1) := by decide +kernel
theorem dX9_chosen_44 : decode cX9_chosen 44 = .ok (.aload_n 0, 1) := by decide +kernel
theorem dX9_chosen_45 : decode cX9_chosen 45 = .ok (.getfield 39, 3) := by decide +kernel
theorem dX9_chosen_48 : decode cX9_chosen 48 = .ok (.getfield 148, 3) := by decide +kernel
theorem dX9_chosen_51 : decode cX9_chosen 51 = .ok (.ireturn, 1) := by decide +kernel
theorem dX9_chosen_52 : decode cX9_chosen 52 = .ok (.new 151, 3) := by decide +kernel
theorem dX9_chosen_55 : decode cX9_chosen 55 = .ok (.dup, 1) := by decide +kernel
theorem dX9_chosen_56 : decode cX9_chosen 56 = .ok (.ldc 153, 2) := by decide +kernel
theorem dX9_chosen_58 : decode cX9_chosen 58 = .ok (.invokespecial 155, 3) := by decide +kernel
theorem dX9_chosen_61 : decode cX9_chosen 61 = .ok (.athrow, 1) := by decide +kernel
set_option maxRecDepth 20000 in
theorem ggX9_feed_X9_checkRoomOnTape : GoodIn wsX9_feed wsX9_checkRoomOnTape := goodIn_ca (goodIn_r _ [6, 7, 8, 1, 29, 30, 31, 32, 33, 34, 35, 36, 37, 38, 39, 40, 41, 42, 43, 44, 45, 46] (by decide +kernel) (by decide +kernel)) (goodIn_sub (fun _ h => List.mem_cons_of_mem _ (List.mem_append_right _ h)) (by decide +kernel))
set_option maxRecDepth 20000 in
theorem gX9_feed_X9_checkRoomOnTape : GoodIn wsX9_feed (wsV RX9 96 RX9 yX9_checkRoomOnTape wsX9_checkRoomOnTape) := goodIn_app (goodIn_of _ (by decide +kernel)) ggX9_feed_X9_checkRoomOnTape
set_option maxRecDepth 20000 in
theorem ggX9_feed_X7_startDraft : GoodIn wsX9_feed wsX7_startDraft := goodIn_r _ [13, 14, 40, 41, 42, 43, 44, 45, 46] (by decide +kernel) (by decide +kernel)
set_option maxRecDepth 20000 in
theorem gX9_feed_X7_startDraft : GoodIn wsX9_feed (wsV RX9 156 RX7 yX7_startDraft wsX7_startDraft) := goodIn_app (goodIn_of _ (by decide +kernel)) ggX9_feed_X7_startDraft
set_option maxRecDepth 20000 in
theorem ggX9_feed_X7_draft : GoodIn wsX9_feed wsX7_draft := goodIn_r _ [18, 19, 14, 20, 40, 41, 42, 43, 44, 45, 46] (by decide +kernel) (by decide +kernel)
set_option maxRecDepth 20000 in
theorem gX9_feed_X7_draft : GoodIn wsX9_feed (wsV RX9 159 RX7 yX7_draft wsX7_draft) := goodIn_app (goodIn_of _ (by decide +kernel)) ggX9_feed_X7_draft
set_option maxRecDepth 20000 in
theorem ggX9_feed_X7_keepDraft : GoodIn wsX9_feed wsX7_keepDraft := goodIn_r _ [24, 19, 14, 25, 26, 27, 28, 40, 41, 42, 43, 44, 45, 46] (by decide +kernel) (by decide +kernel)
set_option maxRecDepth 20000 in
theorem gX9_feed_X7_keepDraft : GoodIn wsX9_feed (wsV RX9 103 RX7 yX7_keepDraft wsX7_keepDraft) := goodIn_app (goodIn_of _ (by decide +kernel)) ggX9_feed_X7_keepDraft
theorem dX9_feed_0 : decode cX9_feed 0 = .ok (.aload_n 0, 1) := by decide +kernel
theorem dX9_feed_1 : decode cX9_feed 1 = .ok (.iconst 4, 1) := by decide +kernel
theorem dX9_feed_2 : decode cX9_feed 2 = .ok (.invokevirtual 96, 3) := by decide +kernel
theorem dX9_feed_5 : decode cX9_feed 5 = .ok (.aload_n 0, 1) := by decide +kernel
theorem dX9_feed_6 : decode cX9_feed 6 = .ok (.getfield 32, 3) := by decide +kernel
theorem dX9_feed_9 : decode cX9_feed 9 = .ok (.getfield 99, 3) := by decide +kernel
theorem dX9_feed_12 : decode cX9_feed 12 = .ok (.astore_n 2, 1) := by decide +kernel
theorem dX9_feed_13 : decode cX9_feed 13 = .ok (.aload_n 2, 1) := by decide +kernel
theorem dX9_feed_14 : decode cX9_feed 14 = .ok (.invokevirtual 156, 3) := by decide +kernel
theorem dX9_feed_17 : decode cX9_feed 17 = .ok (.bipush 24, 2) := by decide +kernel
theorem dX9_feed_19 : decode cX9_feed 19 = .ok (.istore_n 3, 1) := by decide +kernel
theorem dX9_feed_20 : decode cX9_feed 20 = .ok (.iload_n 3, 1) := by decide +kernel
theorem dX9_feed_21 : decode cX9_feed 21 = .ok (.ifCond .lt 16, 3) := by decide +kernel
theorem dX9_feed_24 : decode cX9_feed 24 = .ok (.aload_n 2, 1) := by decide +kernel
theorem dX9_feed_25 : decode cX9_feed 25 = .ok (.iload_n 1, 1) := by decide +kernel
theorem dX9_feed_26 : decode cX9_feed 26 = .ok (.iload_n 3, 1) := by decide +kernel
theorem dX9_feed_27 : decode cX9_feed 27 = .ok (.iushr, 1) := by decide +kernel
theorem dX9_feed_28 : decode cX9_feed 28 = .ok (.invokevirtual 159, 3) := by decide +kernel
theorem dX9_feed_31 : decode cX9_feed 31 = .ok (.iinc 3 (-8), 3) := by decide +kernel
theorem dX9_feed_34 : decode cX9_feed 34 = .ok (.goto (-14), 3) := by decide +kernel
theorem dX9_feed_37 : decode cX9_feed 37 = .ok (.aload_n 2, 1) := by decide +kernel
