theorem dX6_offer_6 : decode cX6_offer 6 = .ok (.iload_n 1, 1) := by decide +kernel
theorem dX6_offer_7 : decode cX6_offer 7 = .ok (.aload_n 0, 1) := by decide +kernel
theorem dX6_offer_8 : decode cX6_offer 8 = .ok (.iload_n 1, 1) := by decide +kernel
theorem dX6_offer_9 : decode cX6_offer 9 = .ok (.iaload, 1) := by decide +kernel
theorem dX6_offer_10 : decode cX6_offer 10 = .ok (.iload_n 2, 1) := by decide +kernel
theorem dX6_offer_11 : decode cX6_offer 11 = .ok (.bipush 40, 2) := by decide +kernel
theorem dX6_offer_13 : decode cX6_offer 13 = .ok (.imul, 1) := by decide +kernel
theorem dX6_offer_14 : decode cX6_offer 14 = .ok (.iload_n 3, 1) := by decide +kernel
theorem dX6_offer_15 : decode cX6_offer 15 = .ok (.iadd, 1) := by decide +kernel
theorem dX6_offer_16 : decode cX6_offer 16 = .ok (.invokestatic 46, 3) := by decide +kernel
theorem dX6_offer_19 : decode cX6_offer 19 = .ok (.iastore, 1) := by decide +kernel
theorem dX6_offer_20 : decode cX6_offer 20 = .ok (.return_, 1) := by decide +kernel
theorem dX6_sum_0 : decode cX6_sum 0 = .ok (.iload_n 0, 1) := by decide +kernel
theorem dX6_sum_1 : decode cX6_sum 1 = .ok (.iconst (-1), 1) := by decide +kernel
theorem dX6_sum_2 : decode cX6_sum 2 = .ok (.if_icmp .eq 8, 3) := by decide +kernel
theorem dX6_sum_5 : decode cX6_sum 5 = .ok (.iload_n 1, 1) := by decide +kernel
theorem dX6_sum_6 : decode cX6_sum 6 = .ok (.iconst (-1), 1) := by decide +kernel
theorem dX6_sum_7 : decode cX6_sum 7 = .ok (.if_icmp .ne 7, 3) := by decide +kernel
theorem dX6_sum_10 : decode cX6_sum 10 = .ok (.iconst (-1), 1) := by decide +kernel
theorem dX6_sum_11 : decode cX6_sum 11 = .ok (.goto 6, 3) := by decide +kernel
theorem dX6_sum_14 : decode cX6_sum 14 = .ok (.iload_n 0, 1) := by decide +kernel
theorem dX6_sum_15 : decode cX6_sum 15 = .ok (.iload_n 1, 1) := by decide +kernel
theorem dX6_sum_16 : decode cX6_sum 16 = .ok (.iadd, 1) := by decide +kernel
theorem dX6_sum_17 : decode cX6_sum 17 = .ok (.ireturn, 1) := by decide +kernel
theorem dX7_init_0 : decode cX7_init 0 = .ok (.aload_n 0, 1) := by decide +kernel
theorem dX7_init_1 : decode cX7_init 1 = .ok (.invokespecial 3, 3) := by decide +kernel
theorem dX7_init_4 : decode cX7_init 4 = .ok (.aload_n 0, 1) := by decide +kernel
theorem dX7_init_5 : decode cX7_init 5 = .ok (.sipush 8000, 3) := by decide +kernel
theorem dX7_init_8 : decode cX7_init 8 = .ok (.newarray .byte, 2) := by decide +kernel
theorem dX7_init_10 : decode cX7_init 10 = .ok (.putfield 9, 3) := by decide +kernel
theorem dX7_init_13 : decode cX7_init 13 = .ok (.aload_n 0, 1) := by decide +kernel
theorem dX7_init_14 : decode cX7_init 14 = .ok (.iconst 0, 1) := by decide +kernel
theorem dX7_init_15 : decode cX7_init 15 = .ok (.putfield 15, 3) := by decide +kernel
theorem dX7_init_18 : decode cX7_init 18 = .ok (.aload_n 0, 1) := by decide +kernel
theorem dX7_init_19 : decode cX7_init 19 = .ok (.iconst 0, 1) := by decide +kernel
theorem dX7_init_20 : decode cX7_init 20 = .ok (.putfield 19, 3) := by decide +kernel
theorem dX7_init_23 : decode cX7_init 23 = .ok (.aload_n 0, 1) := by decide +kernel
theorem dX7_init_24 : decode cX7_init 24 = .ok (.iconst 0, 1) := by decide +kernel
theorem dX7_init_25 : decode cX7_init 25 = .ok (.putfield 22, 3) := by decide +kernel
theorem dX7_init_28 : decode cX7_init 28 = .ok (.aload_n 0, 1) := by decide +kernel
theorem dX7_init_29 : decode cX7_init 29 = .ok (.iconst 0, 1) := by decide +kernel
theorem dX7_init_30 : decode cX7_init 30 = .ok (.putfield 25, 3) := by decide +kernel
theorem dX7_init_33 : decode cX7_init 33 = .ok (.aload_n 0, 1) := by decide +kernel
theorem dX7_init_34 : decode cX7_init 34 = .ok (.iconst 0, 1) := by decide +kernel
theorem dX7_init_35 : decode cX7_init 35 = .ok (.putfield 28, 3) := by decide +kernel
theorem dX7_init_38 : decode cX7_init 38 = .ok (.aload_n 0, 1) := by decide +kernel
theorem dX7_init_39 : decode cX7_init 39 = .ok (.iconst (-1), 1) := by decide +kernel
theorem dX7_init_40 : decode cX7_init 40 = .ok (.putfield 31, 3) := by decide +kernel
theorem dX7_init_43 : decode cX7_init 43 = .ok (.return_, 1) := by decide +kernel
theorem dX7_byteAt_0 : decode cX7_byteAt 0 = .ok (.iload_n 1, 1) := by decide +kernel
theorem dX7_byteAt_1 : decode cX7_byteAt 1 = .ok (.ifCond .lt 24, 3) := by decide +kernel
theorem dX7_byteAt_4 : decode cX7_byteAt 4 = .ok (.iload_n 1, 1) := by decide +kernel
theorem dX7_byteAt_5 : decode cX7_byteAt 5 = .ok (.aload_n 0, 1) := by decide +kernel
theorem dX7_byteAt_6 : decode cX7_byteAt 6 = .ok (.getfield 15, 3) := by decide +kernel
theorem dX7_byteAt_9 : decode cX7_byteAt 9 = .ok (.if_icmp .ge 16, 3) := by decide +kernel
theorem dX7_byteAt_12 : decode cX7_byteAt 12 = .ok (.aload_n 0, 1) := by decide +kernel
theorem dX7_byteAt_13 : decode cX7_byteAt 13 = .ok (.getfield 9, 3) := by decide +kernel
theorem dX7_byteAt_16 : decode cX7_byteAt 16 = .ok (.iload_n 1, 1) := by decide +kernel
theorem dX7_byteAt_17 : decode cX7_byteAt 17 = .ok (.baload, 1) := by decide +kernel
theorem dX7_byteAt_18 : decode cX7_byteAt 18 = .ok (.sipush 255, 3) := by decide +kernel
theorem dX7_byteAt_21 : decode cX7_byteAt 21 = .ok (.iand, 1) := by decide +kernel
theorem dX7_byteAt_22 : decode cX7_byteAt 22 = .ok (.goto 4, 3) := by decide +kernel
theorem dX7_byteAt_25 : decode cX7_byteAt 25 = .ok (.iconst (-1), 1) := by decide +kernel
theorem dX7_byteAt_26 : decode cX7_byteAt 26 = .ok (.ireturn, 1) := by decide +kernel
theorem dX7_startDraft_0 : decode cX7_startDraft 0 = .ok (.aload_n 0, 1) := by decide +kernel
theorem dX7_startDraft_1 : decode cX7_startDraft 1 = .ok (.iconst 0, 1) := by decide +kernel
theorem dX7_startDraft_2 : decode cX7_startDraft 2 = .ok (.putfield 22, 3) := by decide +kernel
theorem dX7_startDraft_5 : decode cX7_startDraft 5 = .ok (.return_, 1) := by decide +kernel
theorem dX7_draft_0 : decode cX7_draft 0 = .ok (.aload_n 0, 1) := by decide +kernel
theorem dX7_draft_1 : decode cX7_draft 1 = .ok (.getfield 15, 3) := by decide +kernel
theorem dX7_draft_4 : decode cX7_draft 4 = .ok (.aload_n 0, 1) := by decide +kernel
theorem dX7_draft_5 : decode cX7_draft 5 = .ok (.getfield 22, 3) := by decide +kernel
theorem dX7_draft_8 : decode cX7_draft 8 = .ok (.iadd, 1) := by decide +kernel
theorem dX7_draft_9 : decode cX7_draft 9 = .ok (.istore_n 2, 1) := by decide +kernel
theorem dX7_draft_10 : decode cX7_draft 10 = .ok (.iload_n 2, 1) := by decide +kernel
theorem dX7_draft_11 : decode cX7_draft 11 = .ok (.sipush 8000, 3) := by decide +kernel
theorem dX7_draft_14 : decode cX7_draft 14 = .ok (.if_icmp .ge 11, 3) := by decide +kernel
theorem dX7_draft_17 : decode cX7_draft 17 = .ok (.aload_n 0, 1) := by decide +kernel
theorem dX7_draft_18 : decode cX7_draft 18 = .ok (.getfield 9, 3) := by decide +kernel
theorem dX7_draft_21 : decode cX7_draft 21 = .ok (.iload_n 2, 1) := by decide +kernel
theorem dX7_draft_22 : decode cX7_draft 22 = .ok (.iload_n 1, 1) := by decide +kernel
theorem dX7_draft_23 : decode cX7_draft 23 = .ok (.i2b, 1) := by decide +kernel
theorem dX7_draft_24 : decode cX7_draft 24 = .ok (.bastore, 1) := by decide +kernel
theorem dX7_draft_25 : decode cX7_draft 25 = .ok (.aload_n 0, 1) := by decide +kernel
theorem dX7_draft_26 : decode cX7_draft 26 = .ok (.dup, 1) := by decide +kernel
theorem dX7_draft_27 : decode cX7_draft 27 = .ok (.getfield 22, 3) := by decide +kernel
theorem dX7_draft_30 : decode cX7_draft 30 = .ok (.iconst 1, 1) := by decide +kernel
theorem dX7_draft_31 : decode cX7_draft 31 = .ok (.iadd, 1) := by decide +kernel
theorem dX7_draft_32 : decode cX7_draft 32 = .ok (.putfield 22, 3) := by decide +kernel
theorem dX7_draft_35 : decode cX7_draft 35 = .ok (.return_, 1) := by decide +kernel
theorem dX7_keepDraft_0 : decode cX7_keepDraft 0 = .ok (.aload_n 0, 1) := by decide +kernel
theorem dX7_keepDraft_1 : decode cX7_keepDraft 1 = .ok (.aload_n 0, 1) := by decide +kernel
theorem dX7_keepDraft_2 : decode cX7_keepDraft 2 = .ok (.getfield 15, 3) := by decide +kernel
theorem dX7_keepDraft_5 : decode cX7_keepDraft 5 = .ok (.aload_n 0, 1) := by decide +kernel
theorem dX7_keepDraft_6 : decode cX7_keepDraft 6 = .ok (.getfield 22, 3) := by decide +kernel
theorem dX7_keepDraft_9 : decode cX7_keepDraft 9 = .ok (.iadd, 1) := by decide +kernel
theorem dX7_keepDraft_10 : decode cX7_keepDraft 10 = .ok (.sipush 8000, 3) := by decide +kernel
theorem dX7_keepDraft_13 : decode cX7_keepDraft 13 = .ok (.invokestatic 34, 3) := by decide +kernel
theorem dX7_keepDraft_16 : decode cX7_keepDraft 16 = .ok (.putfield 15, 3) := by decide +kernel
theorem dX7_keepDraft_19 : decode cX7_keepDraft 19 = .ok (.aload_n 0, 1) := by decide +kernel
theorem dX7_keepDraft_20 : decode cX7_keepDraft 20 = .ok (.iconst 0, 1) := by decide +kernel
theorem dX7_keepDraft_21 : decode cX7_keepDraft 21 = .ok (.putfield 22, 3) := by decide +kernel
theorem dX7_keepDraft_24 : decode cX7_keepDraft 24 = .ok (.return_, 1) := by decide +kernel
theorem dX7_startReading_0 : decode cX7_startReading 0 = .ok (.aload_n 0, 1) := by decide +kernel
theorem dX7_startReading_1 : decode cX7_startReading 1 = .ok (.aload_n 0, 1) := by decide +kernel
theorem dX7_startReading_2 : decode cX7_startReading 2 = .ok (.getfield 19, 3) := by decide +kernel
theorem dX7_startReading_5 : decode cX7_startReading 5 = .ok (.putfield 25, 3) := by decide +kernel
theorem dX7_startReading_8 : decode cX7_startReading 8 = .ok (.return_, 1) := by decide +kernel
theorem dX7_next_0 : decode cX7_next 0 = .ok (.aload_n 0, 1) := by decide +kernel
theorem dX7_next_1 : decode cX7_next 1 = .ok (.aload_n 0, 1) := by decide +kernel
theorem dX7_next_2 : decode cX7_next 2 = .ok (.getfield 25, 3) := by decide +kernel
theorem dX7_next_5 : decode cX7_next 5 = .ok (.invokevirtual 40, 3) := by decide +kernel
theorem dX7_next_8 : decode cX7_next 8 = .ok (.istore_n 1, 1) := by decide +kernel
theorem dX7_next_9 : decode cX7_next 9 = .ok (.iload_n 1, 1) := by decide +kernel
theorem dX7_next_10 : decode cX7_next 10 = .ok (.iconst (-1), 1) := by decide +kernel
theorem dX7_next_11 : decode cX7_next 11 = .ok (.if_icmp .eq 13, 3) := by decide +kernel
theorem dX7_next_14 : decode cX7_next 14 = .ok (.aload_n 0, 1) := by decide +kernel
theorem dX7_next_15 : decode cX7_next 15 = .ok (.dup, 1) := by decide +kernel
theorem dX7_next_16 : decode cX7_next 16 = .ok (.getfield 25, 3) := by decide +kernel
theorem dX7_next_19 : decode cX7_next 19 = .ok (.iconst 1, 1) := by decide +kernel
theorem dX7_next_20 : decode cX7_next 20 = .ok (.iadd, 1) := by decide +kernel
theorem dX7_next_21 : decode cX7_next 21 = .ok (.putfield 25, 3) := by decide +kernel
theorem dX7_next_24 : decode cX7_next 24 = .ok (.iload_n 1, 1) := by decide +kernel
theorem dX7_next_25 : decode cX7_next 25 = .ok (.ireturn, 1) := by decide +kernel
theorem dX7_keepReading_0 : decode cX7_keepReading 0 = .ok (.aload_n 0, 1) := by decide +kernel
theorem dX7_keepReading_1 : decode cX7_keepReading 1 = .ok (.getfield 25, 3) := by decide +kernel
theorem dX7_keepReading_4 : decode cX7_keepReading 4 = .ok (.aload_n 0, 1) := by decide +kernel
theorem dX7_keepReading_5 : decode cX7_keepReading 5 = .ok (.getfield 19, 3) := by decide +kernel
theorem dX7_keepReading_8 : decode cX7_keepReading 8 = .ok (.isub, 1) := by decide +kernel
theorem dX7_keepReading_9 : decode cX7_keepReading 9 = .ok (.istore_n 1, 1) := by decide +kernel
theorem dX7_keepReading_10 : decode cX7_keepReading 10 = .ok (.aload_n 0, 1) := by decide +kernel
theorem dX7_keepReading_11 : decode cX7_keepReading 11 = .ok (.aload_n 0, 1) := by decide +kernel
theorem dX7_keepReading_12 : decode cX7_keepReading 12 = .ok (.getfield 25, 3) := by decide +kernel
theorem dX7_keepReading_15 : decode cX7_keepReading 15 = .ok (.putfield 19, 3) := by decide +kernel
theorem dX7_keepReading_18 : decode cX7_keepReading 18 = .ok (.iload_n 1, 1) := by decide +kernel
theorem dX7_keepReading_19 : decode cX7_keepReading 19 = .ok (.ireturn, 1) := by decide +kernel
theorem dX7_fail_0 : decode cX7_fail 0 = .ok (.aload_n 0, 1) := by decide +kernel
theorem dX7_fail_1 : decode cX7_fail 1 = .ok (.iload_n 1, 1) := by decide +kernel
theorem dX7_fail_2 : decode cX7_fail 2 = .ok (.putfield 28, 3) := by decide +kernel
theorem dX7_fail_5 : decode cX7_fail 5 = .ok (.aload_n 0, 1) := by decide +kernel
theorem dX7_fail_6 : decode cX7_fail 6 = .ok (.iload_n 2, 1) := by decide +kernel
theorem dX7_fail_7 : decode cX7_fail 7 = .ok (.putfield 31, 3) := by decide +kernel
theorem dX7_fail_10 : decode cX7_fail 10 = .ok (.iconst 0, 1) := by decide +kernel
theorem dX7_fail_11 : decode cX7_fail 11 = .ok (.ireturn, 1) := by decide +kernel
theorem dX8_init_0 : decode cX8_init 0 = .ok (.aload_n 0, 1) := by decide +kernel
theorem dX8_init_1 : decode cX8_init 1 = .ok (.invokespecial 3, 3) := by decide +kernel
theorem dX8_init_4 : decode cX8_init 4 = .ok (.aload_n 0, 1) := by decide +kernel
theorem dX8_init_5 : decode cX8_init 5 = .ok (.iload_n 1, 1) := by decide +kernel
theorem dX8_init_6 : decode cX8_init 6 = .ok (.putfield 9, 3) := by decide +kernel
theorem dX8_init_9 : decode cX8_init 9 = .ok (.return_, 1) := by decide +kernel
theorem dX8_trait_0 : decode cX8_trait 0 = .ok (.iconst (-1), 1) := by decide +kernel
theorem dX8_trait_1 : decode cX8_trait 1 = .ok (.ireturn, 1) := by decide +kernel
theorem dX9_init_0 : decode cX9_init 0 = .ok (.aload_n 0, 1) := by decide +kernel
theorem dX9_init_1 : decode cX9_init 1 = .ok (.invokespecial 1, 3) := by decide +kernel
theorem dX9_init_4 : decode cX9_init 4 = .ok (.aload_n 0, 1) := by decide +kernel
theorem dX9_init_5 : decode cX9_init 5 = .ok (.bipush 40, 2) := by decide +kernel
theorem dX9_init_7 : decode cX9_init 7 = .ok (.anewarray 9, 3) := by decide +kernel
theorem dX9_init_10 : decode cX9_init 10 = .ok (.putfield 11, 3) := by decide +kernel
theorem dX9_init_13 : decode cX9_init 13 = .ok (.aload_n 0, 1) := by decide +kernel
theorem dX9_init_14 : decode cX9_init 14 = .ok (.iconst 0, 1) := by decide +kernel
theorem dX9_init_15 : decode cX9_init 15 = .ok (.putfield 15, 3) := by decide +kernel
theorem dX9_init_18 : decode cX9_init 18 = .ok (.aload_n 0, 1) := by decide +kernel
theorem dX9_init_19 : decode cX9_init 19 = .ok (.sipush 400, 3) := by decide +kernel
theorem dX9_init_22 : decode cX9_init 22 = .ok (.newarray .int, 2) := by decide +kernel
theorem dX9_init_24 : decode cX9_init 24 = .ok (.putfield 19, 3) := by decide +kernel
theorem dX9_init_27 : decode cX9_init 27 = .ok (.aload_n 0, 1) := by decide +kernel
theorem dX9_init_28 : decode cX9_init 28 = .ok (.iconst 0, 1) := by decide +kernel
theorem dX9_init_29 : decode cX9_init 29 = .ok (.putfield 23, 3) := by decide +kernel
theorem dX9_init_32 : decode cX9_init 32 = .ok (.aload_n 0, 1) := by decide +kernel
theorem dX9_init_33 : decode cX9_init 33 = .ok (.sipush 400, 3) := by decide +kernel
theorem dX9_init_36 : decode cX9_init 36 = .ok (.newarray .int, 2) := by decide +kernel
theorem dX9_init_38 : decode cX9_init 38 = .ok (.putfield 26, 3) := by decide +kernel
theorem dX9_init_41 : decode cX9_init 41 = .ok (.aload_n 0, 1) := by decide +kernel
theorem dX9_init_42 : decode cX9_init 42 = .ok (.new 29, 3) := by decide +kernel
theorem dX9_init_45 : decode cX9_init 45 = .ok (.dup, 1) := by decide +kernel
theorem dX9_init_46 : decode cX9_init 46 = .ok (.invokespecial 31, 3) := by decide +kernel
theorem dX9_init_49 : decode cX9_init 49 = .ok (.putfield 32, 3) := by decide +kernel
theorem dX9_init_52 : decode cX9_init 52 = .ok (.aload_n 0, 1) := by decide +kernel
theorem dX9_init_53 : decode cX9_init 53 = .ok (.new 36, 3) := by decide +kernel
theorem dX9_init_56 : decode cX9_init 56 = .ok (.dup, 1) := by decide +kernel
theorem dX9_init_57 : decode cX9_init 57 = .ok (.invokespecial 38, 3) := by decide +kernel
theorem dX9_init_60 : decode cX9_init 60 = .ok (.putfield 39, 3) := by decide +kernel
theorem dX9_init_63 : decode cX9_init 63 = .ok (.aload_n 0, 1) := by decide +kernel
theorem dX9_init_64 : decode cX9_init 64 = .ok (.iconst (-1), 1) := by decide +kernel
theorem dX9_init_65 : decode cX9_init 65 = .ok (.putfield 43, 3) := by decide +kernel
theorem dX9_init_68 : decode cX9_init 68 = .ok (.return_, 1) := by decide +kernel
theorem dX9_coding_0 : decode cX9_coding 0 = .ok (.iload_n 1, 1) := by decide +kernel
theorem dX9_coding_1 : decode cX9_coding 1 = .ok (.iconst 1, 1) := by decide +kernel
theorem dX9_coding_2 : decode cX9_coding 2 = .ok (.iconst 5, 1) := by decide +kernel
theorem dX9_coding_3 : decode cX9_coding 3 = .ok (.invokestatic 46, 3) := by decide +kernel
theorem dX9_coding_6 : decode cX9_coding 6 = .ok (.iload_n 2, 1) := by decide +kernel
theorem dX9_coding_7 : decode cX9_coding 7 = .ok (.iconst 1, 1) := by decide +kernel
theorem dX9_coding_8 : decode cX9_coding 8 = .ok (.sipush 256, 3) := by decide +kernel
theorem dX9_coding_11 : decode cX9_coding 11 = .ok (.invokestatic 46, 3) := by decide +kernel
theorem dX9_coding_14 : decode cX9_coding 14 = .ok (.iload_n 3, 1) := by decide +kernel
theorem dX9_coding_15 : decode cX9_coding 15 = .ok (.iconst 0, 1) := by decide +kernel
theorem dX9_coding_16 : decode cX9_coding 16 = .ok (.iconst 2, 1) := by decide +kernel
theorem dX9_coding_17 : decode cX9_coding 17 = .ok (.invokestatic 46, 3) := by decide +kernel
theorem dX9_coding_20 : decode cX9_coding 20 = .ok (.iload 4, 2) := by decide +kernel
theorem dX9_coding_22 : decode cX9_coding 22 = .ok (.iconst 0, 1) := by decide +kernel
theorem dX9_coding_23 : decode cX9_coding 23 = .ok (.iconst 1, 1) := by decide +kernel
theorem dX9_coding_24 : decode cX9_coding 24 = .ok (.invokestatic 46, 3) := by decide +kernel
theorem dX9_coding_27 : decode cX9_coding 27 = .ok (.aload_n 0, 1) := by decide +kernel
theorem dX9_coding_28 : decode cX9_coding 28 = .ok (.iconst 0, 1) := by decide +kernel
theorem dX9_coding_29 : decode cX9_coding 29 = .ok (.invokevirtual 50, 3) := by decide +kernel
theorem dX9_coding_32 : decode cX9_coding 32 = .ok (.aload_n 0, 1) := by decide +kernel
theorem dX9_coding_33 : decode cX9_coding 33 = .ok (.new 54, 3) := by decide +kernel
theorem dX9_coding_36 : decode cX9_coding 36 = .ok (.dup, 1) := by decide +kernel
theorem dX9_coding_37 : decode cX9_coding 37 = .ok (.iload_n 1, 1) := by decide +kernel
theorem dX9_coding_38 : decode cX9_coding 38 = .ok (.iload_n 2, 1) := by decide +kernel
theorem dX9_coding_39 : decode cX9_coding 39 = .ok (.iload_n 3, 1) := by decide +kernel
theorem dX9_coding_40 : decode cX9_coding 40 = .ok (.iload 4, 2) := by decide +kernel
theorem dX9_coding_42 : decode cX9_coding 42 = .ok (.invokespecial 56, 3) := by decide +kernel
theorem dX9_coding_45 : decode cX9_coding 45 = .ok (.invokevirtual 59, 3) := by decide +kernel
theorem dX9_coding_48 : decode cX9_coding 48 = .ok (.ireturn, 1) := by decide +kernel
theorem dX9_run_0 : decode cX9_run 0 = .ok (.iload_n 1, 1) := by decide +kernel
theorem dX9_run_1 : decode cX9_run 1 = .ok (.iconst 0, 1) := by decide +kernel
theorem dX9_run_2 : decode cX9_run 2 = .ok (.sipush 400, 3) := by decide +kernel
theorem dX9_run_5 : decode cX9_run 5 = .ok (.invokestatic 46, 3) := by decide +kernel
theorem dX9_run_8 : decode cX9_run 8 = .ok (.aload_n 0, 1) := by decide +kernel
theorem dX9_run_9 : decode cX9_run 9 = .ok (.iload_n 2, 1) := by decide +kernel
theorem dX9_run_10 : decode cX9_run 10 = .ok (.invokevirtual 63, 3) := by decide +kernel
theorem dX9_run_13 : decode cX9_run 13 = .ok (.astore 4, 2) := by decide +kernel
theorem dX9_run_15 : decode cX9_run 15 = .ok (.aload_n 0, 1) := by decide +kernel
theorem dX9_run_16 : decode cX9_run 16 = .ok (.iload_n 3, 1) := by decide +kernel
theorem dX9_run_17 : decode cX9_run 17 = .ok (.invokevirtual 63, 3) := by decide +kernel
theorem dX9_run_20 : decode cX9_run 20 = .ok (.astore 5, 2) := by decide +kernel
theorem dX9_run_22 : decode cX9_run 22 = .ok (.iconst 1, 1) := by decide +kernel
theorem dX9_run_23 : decode cX9_run 23 = .ok (.aload 4, 2) := by decide +kernel
theorem dX9_run_25 : decode cX9_run 25 = .ok (.getfield 67, 3) := by decide +kernel
theorem dX9_run_28 : decode cX9_run 28 = .ok (.aload 5, 2) := by decide +kernel
theorem dX9_run_30 : decode cX9_run 30 = .ok (.getfield 67, 3) := by decide +kernel
theorem dX9_run_33 : decode cX9_run 33 = .ok (.invokestatic 70, 3) := by decide +kernel
theorem dX9_run_36 : decode cX9_run 36 = .ok (.iadd, 1) := by decide +kernel
theorem dX9_run_37 : decode cX9_run 37 = .ok (.istore 6, 2) := by decide +kernel
theorem dX9_run_39 : decode cX9_run 39 = .ok (.aload_n 0, 1) := by decide +kernel
theorem dX9_run_40 : decode cX9_run 40 = .ok (.iload 6, 2) := by decide +kernel
theorem dX9_run_42 : decode cX9_run 42 = .ok (.invokevirtual 50, 3) := by decide +kernel
theorem dX9_run_45 : decode cX9_run 45 = .ok (.aload_n 0, 1) := by decide +kernel
theorem dX9_run_46 : decode cX9_run 46 = .ok (.new 76, 3) := by decide +kernel
theorem dX9_run_49 : decode cX9_run 49 = .ok (.dup, 1) := by decide +kernel
theorem dX9_run_50 : decode cX9_run 50 = .ok (.iload 6, 2) := by decide +kernel
theorem dX9_run_52 : decode cX9_run 52 = .ok (.iload_n 1, 1) := by decide +kernel
theorem dX9_run_53 : decode cX9_run 53 = .ok (.aload 4, 2) := by decide +kernel
theorem dX9_run_55 : decode cX9_run 55 = .ok (.aload 5, 2) := by decide +kernel
theorem dX9_run_57 : decode cX9_run 57 = .ok (.invokespecial 78, 3) := by decide +kernel
theorem dX9_run_60 : decode cX9_run 60 = .ok (.invokevirtual 59, 3) := by decide +kernel
theorem dX9_run_63 : decode cX9_run 63 = .ok (.ireturn, 1) := by decide +kernel
theorem dX9_popular_0 : decode cX9_popular 0 = .ok (.iload_n 1, 1) := by decide +kernel
theorem dX9_popular_1 : decode cX9_popular 1 = .ok (.iconst 1, 1) := by decide +kernel
theorem dX9_popular_2 : decode cX9_popular 2 = .ok (.bipush 50, 2) := by decide +kernel
theorem dX9_popular_4 : decode cX9_popular 4 = .ok (.invokestatic 46, 3) := by decide +kernel
theorem dX9_popular_7 : decode cX9_popular 7 = .ok (.aload_n 0, 1) := by decide +kernel
theorem dX9_popular_8 : decode cX9_popular 8 = .ok (.iload_n 2, 1) := by decide +kernel
theorem dX9_popular_9 : decode cX9_popular 9 = .ok (.invokevirtual 63, 3) := by decide +kernel
theorem dX9_popular_12 : decode cX9_popular 12 = .ok (.astore 5, 2) := by decide +kernel
theorem dX9_popular_14 : decode cX9_popular 14 = .ok (.aload_n 0, 1) := by decide +kernel
theorem dX9_popular_15 : decode cX9_popular 15 = .ok (.iload_n 3, 1) := by decide +kernel
theorem dX9_popular_16 : decode cX9_popular 16 = .ok (.invokevirtual 63, 3) := by decide +kernel
theorem dX9_popular_19 : decode cX9_popular 19 = .ok (.astore 6, 2) := by decide +kernel
theorem dX9_popular_21 : decode cX9_popular 21 = .ok (.aload_n 0, 1) := by decide +kernel
theorem dX9_popular_22 : decode cX9_popular 22 = .ok (.iload 4, 2) := by decide +kernel
theorem dX9_popular_24 : decode cX9_popular 24 = .ok (.invokevirtual 63, 3) := by decide +kernel
theorem dX9_popular_27 : decode cX9_popular 27 = .ok (.astore 7, 2) := by decide +kernel
theorem dX9_popular_29 : decode cX9_popular 29 = .ok (.iconst 1, 1) := by decide +kernel
theorem dX9_popular_30 : decode cX9_popular 30 = .ok (.aload 5, 2) := by decide +kernel
theorem dX9_popular_32 : decode cX9_popular 32 = .ok (.getfield 67, 3) := by decide +kernel
theorem dX9_popular_35 : decode cX9_popular 35 = .ok (.aload 6, 2) := by decide +kernel
theorem dX9_popular_37 : decode cX9_popular 37 = .ok (.getfield 67, 3) := by decide +kernel
theorem dX9_popular_40 : decode cX9_popular 40 = .ok (.aload 7, 2) := by decide +kernel
theorem dX9_popular_42 : decode cX9_popular 42 = .ok (.getfield 67, 3) := by decide +kernel
theorem dX9_popular_45 : decode cX9_popular 45 = .ok (.invokestatic 70, 3) := by decide +kernel
theorem dX9_popular_48 : decode cX9_popular 48 = .ok (.invokestatic 70, 3) := by decide +kernel
theorem dX9_popular_51 : decode cX9_popular 51 = .ok (.iadd, 1) := by decide +kernel
theorem dX9_popular_52 : decode cX9_popular 52 = .ok (.istore 8, 2) := by decide +kernel
theorem dX9_popular_54 : decode cX9_popular 54 = .ok (.aload_n 0, 1) := by decide +kernel
theorem dX9_popular_55 : decode cX9_popular 55 = .ok (.iload 8, 2) := by decide +kernel
theorem dX9_popular_57 : decode cX9_popular 57 = .ok (.invokevirtual 50, 3) := by decide +kernel
theorem dX9_popular_60 : decode cX9_popular 60 = .ok (.aload_n 0, 1) := by decide +kernel
theorem dX9_popular_61 : decode cX9_popular 61 = .ok (.new 81, 3) := by decide +kernel
theorem dX9_popular_64 : decode cX9_popular 64 = .ok (.dup, 1) := by decide +kernel
theorem dX9_popular_65 : decode cX9_popular 65 = .ok (.iload 8, 2) := by decide +kernel
theorem dX9_popular_67 : decode cX9_popular 67 = .ok (.iload_n 1, 1) := by decide +kernel
theorem dX9_popular_68 : decode cX9_popular 68 = .ok (.aload 5, 2) := by decide +kernel
theorem dX9_popular_70 : decode cX9_popular 70 = .ok (.aload 6, 2) := by decide +kernel
theorem dX9_popular_72 : decode cX9_popular 72 = .ok (.aload 7, 2) := by decide +kernel
theorem dX9_popular_74 : decode cX9_popular 74 = .ok (.invokespecial 83, 3) := by decide +kernel
theorem dX9_popular_77 : decode cX9_popular 77 = .ok (.invokevirtual 59, 3) := by decide +kernel
theorem dX9_popular_80 : decode cX9_popular 80 = .ok (.ireturn, 1) := by decide +kernel
theorem dX9_number_0 : decode cX9_number 0 = .ok (.aload_n 0, 1) := by decide +kernel
theorem dX9_number_1 : decode cX9_number 1 = .ok (.getfield 23, 3) := by decide +kernel
theorem dX9_number_4 : decode cX9_number 4 = .ok (.sipush 400, 3) := by decide +kernel
theorem dX9_number_7 : decode cX9_number 7 = .ok (.if_icmp .lt 13, 3) := by decide +kernel
theorem dX9_number_10 : decode cX9_number 10 = .ok (.new 86, 3) := by decide +kernel
theorem dX9_number_13 : decode cX9_number 13 = .ok (.dup, 1) := by decide +kernel
theorem dX9_number_14 : decode cX9_number 14 = .ok (.ldc 88, 2) := by decide +kernel
theorem dX9_number_16 : decode cX9_number 16 = .ok (.invokespecial 90, 3) := by decide +kernel
theorem dX9_number_19 : decode cX9_number 19 = .ok (.athrow, 1) := by decide +kernel
theorem dX9_number_20 : decode cX9_number 20 = .ok (.aload_n 0, 1) := by decide +kernel
theorem dX9_number_21 : decode cX9_number 21 = .ok (.getfield 19, 3) := by decide +kernel
theorem dX9_number_24 : decode cX9_number 24 = .ok (.aload_n 0, 1) := by decide +kernel
theorem dX9_number_25 : decode cX9_number 25 = .ok (.getfield 23, 3) := by decide +kernel
theorem dX9_number_28 : decode cX9_number 28 = .ok (.iload_n 1, 1) := by decide +kernel
theorem dX9_number_29 : decode cX9_number 29 = .ok (.iastore, 1) := by decide +kernel
theorem dX9_number_30 : decode cX9_number 30 = .ok (.aload_n 0, 1) := by decide +kernel
theorem dX9_number_31 : decode cX9_number 31 = .ok (.dup, 1) := by decide +kernel
theorem dX9_number_32 : decode cX9_number 32 = .ok (.getfield 23, 3) := by decide +kernel
theorem dX9_number_35 : decode cX9_number 35 = .ok (.iconst 1, 1) := by decide +kernel
theorem dX9_number_36 : decode cX9_number 36 = .ok (.iadd, 1) := by decide +kernel
theorem dX9_number_37 : decode cX9_number 37 = .ok (.putfield 23, 3) := by decide +kernel
theorem dX9_number_40 : decode cX9_number 40 = .ok (.aload_n 0, 1) := by decide +kernel
theorem dX9_number_41 : decode cX9_number 41 = .ok (.getfield 23, 3) := by decide +kernel
theorem dX9_number_44 : decode cX9_number 44 = .ok (.ireturn, 1) := by decide +kernel
theorem dX9_clear_0 : decode cX9_clear 0 = .ok (.aload_n 0, 1) := by decide +kernel
theorem dX9_clear_1 : decode cX9_clear 1 = .ok (.getfield 23, 3) := by decide +kernel
theorem dX9_clear_4 : decode cX9_clear 4 = .ok (.istore_n 1, 1) := by decide +kernel
theorem dX9_clear_5 : decode cX9_clear 5 = .ok (.aload_n 0, 1) := by decide +kernel
theorem dX9_clear_6 : decode cX9_clear 6 = .ok (.iconst 0, 1) := by decide +kernel
theorem dX9_clear_7 : decode cX9_clear 7 = .ok (.putfield 23, 3) := by decide +kernel
theorem dX9_clear_10 : decode cX9_clear 10 = .ok (.iload_n 1, 1) := by decide +kernel
theorem dX9_clear_11 : decode cX9_clear 11 = .ok (.ireturn, 1) := by decide +kernel
theorem dX9_row_0 : decode cX9_row 0 = .ok (.iload_n 1, 1) := by decide +kernel
theorem dX9_row_1 : decode cX9_row 1 = .ok (.ifCond .lt 20, 3) := by decide +kernel
theorem dX9_row_4 : decode cX9_row 4 = .ok (.iload_n 1, 1) := by decide +kernel
theorem dX9_row_5 : decode cX9_row 5 = .ok (.aload_n 0, 1) := by decide +kernel
theorem dX9_row_6 : decode cX9_row 6 = .ok (.getfield 23, 3) := by decide +kernel
theorem dX9_row_9 : decode cX9_row 9 = .ok (.if_icmp .ge 12, 3) := by decide +kernel
theorem dX9_row_12 : decode cX9_row 12 = .ok (.aload_n 0, 1) := by decide +kernel
theorem dX9_row_13 : decode cX9_row 13 = .ok (.getfield 19, 3) := by decide +kernel
theorem dX9_row_16 : decode cX9_row 16 = .ok (.iload_n 1, 1) := by decide +kernel
theorem dX9_row_17 : decode cX9_row 17 = .ok (.iaload, 1) := by decide +kernel
theorem dX9_row_18 : decode cX9_row 18 = .ok (.goto 4, 3) := by decide +kernel
theorem dX9_row_21 : decode cX9_row 21 = .ok (.iconst 0, 1) := by decide +kernel
theorem dX9_row_22 : decode cX9_row 22 = .ok (.ireturn, 1) := by decide +kernel
theorem dX9_cost_0 : decode cX9_cost 0 = .ok (.aload_n 0, 1) := by decide +kernel
theorem dX9_cost_1 : decode cX9_cost 1 = .ok (.aload_n 0, 1) := by decide +kernel
theorem dX9_cost_2 : decode cX9_cost 2 = .ok (.iload_n 1, 1) := by decide +kernel
theorem dX9_cost_3 : decode cX9_cost 3 = .ok (.invokevirtual 63, 3) := by decide +kernel
theorem dX9_cost_6 : decode cX9_cost 6 = .ok (.invokevirtual 93, 3) := by decide +kernel
theorem dX9_cost_9 : decode cX9_cost 9 = .ok (.ireturn, 1) := by decide +kernel
theorem dX9_pack_0 : decode cX9_pack 0 = .ok (.aload_n 0, 1) := by decide +kernel
theorem dX9_pack_1 : decode cX9_pack 1 = .ok (.aload_n 0, 1) := by decide +kernel
theorem dX9_pack_2 : decode cX9_pack 2 = .ok (.iload_n 1, 1) := by decide +kernel
theorem dX9_pack_3 : decode cX9_pack 3 = .ok (.invokevirtual 63, 3) := by decide +kernel
theorem dX9_pack_6 : decode cX9_pack 6 = .ok (.invokevirtual 93, 3) := by decide +kernel
theorem dX9_pack_9 : decode cX9_pack 9 = .ok (.istore_n 2, 1) := by decide +kernel
theorem dX9_pack_10 : decode cX9_pack 10 = .ok (.iload_n 2, 1) := by decide +kernel
theorem dX9_pack_11 : decode cX9_pack 11 = .ok (.iconst (-1), 1) := by decide +kernel
theorem dX9_pack_12 : decode cX9_pack 12 = .ok (.if_icmp .ne 5, 3) := by decide +kernel
theorem dX9_pack_15 : decode cX9_pack 15 = .ok (.iconst (-1), 1) := by decide +kernel
theorem dX9_pack_16 : decode cX9_pack 16 = .ok (.ireturn, 1) := by decide +kernel
theorem dX9_pack_17 : decode cX9_pack 17 = .ok (.aload_n 0, 1) := by decide +kernel
theorem dX9_pack_18 : decode cX9_pack 18 = .ok (.iload_n 2, 1) := by decide +kernel
theorem dX9_pack_19 : decode cX9_pack 19 = .ok (.invokevirtual 96, 3) := by decide +kernel
theorem dX9_pack_22 : decode cX9_pack 22 = .ok (.aload_n 0, 1) := by decide +kernel
theorem dX9_pack_23 : decode cX9_pack 23 = .ok (.getfield 32, 3) := by decide +kernel
theorem dX9_pack_26 : decode cX9_pack 26 = .ok (.getfield 99, 3) := by decide +kernel
theorem dX9_pack_29 : decode cX9_pack 29 = .ok (.invokevirtual 103, 3) := by decide +kernel
theorem dX9_pack_32 : decode cX9_pack 32 = .ok (.iload_n 2, 1) := by decide +kernel
theorem dX9_pack_33 : decode cX9_pack 33 = .ok (.ireturn, 1) := by decide +kernel
theorem dX9_unpack_0 : decode cX9_unpack 0 = .ok (.aload_n 0, 1) := by decide +kernel
theorem dX9_unpack_1 : decode cX9_unpack 1 = .ok (.iload_n 1, 1) := by decide +kernel
theorem dX9_unpack_2 : decode cX9_unpack 2 = .ok (.invokevirtual 63, 3) := by decide +kernel
theorem dX9_unpack_5 : decode cX9_unpack 5 = .ok (.astore_n 3, 1) := by decide +kernel
theorem dX9_unpack_6 : decode cX9_unpack 6 = .ok (.iload_n 2, 1) := by decide +kernel
theorem dX9_unpack_7 : decode cX9_unpack 7 = .ok (.iconst 0, 1) := by decide +kernel
theorem dX9_unpack_8 : decode cX9_unpack 8 = .ok (.sipush 400, 3) := by decide +kernel
theorem dX9_unpack_11 : decode cX9_unpack 11 = .ok (.invokestatic 46, 3) := by decide +kernel
theorem dX9_unpack_14 : decode cX9_unpack 14 = .ok (.aload_n 0, 1) := by decide +kernel
theorem dX9_unpack_15 : decode cX9_unpack 15 = .ok (.getfield 32, 3) := by decide +kernel
theorem dX9_unpack_18 : decode cX9_unpack 18 = .ok (.getfield 99, 3) := by decide +kernel
theorem dX9_unpack_21 : decode cX9_unpack 21 = .ok (.astore 4, 2) := by decide +kernel
theorem dX9_unpack_23 : decode cX9_unpack 23 = .ok (.aload 4, 2) := by decide +kernel
theorem dX9_unpack_25 : decode cX9_unpack 25 = .ok (.invokevirtual 108, 3) := by decide +kernel
theorem dX9_unpack_28 : decode cX9_unpack 28 = .ok (.aload_n 3, 1) := by decide +kernel
theorem dX9_unpack_29 : decode cX9_unpack 29 = .ok (.aload_n 0, 1) := by decide +kernel
theorem dX9_unpack_30 : decode cX9_unpack 30 = .ok (.getfield 32, 3) := by decide +kernel
theorem dX9_unpack_33 : decode cX9_unpack 33 = .ok (.aload_n 0, 1) := by decide +kernel
theorem dX9_unpack_34 : decode cX9_unpack 34 = .ok (.getfield 26, 3) := by decide +kernel
theorem dX9_unpack_37 : decode cX9_unpack 37 = .ok (.iconst 0, 1) := by decide +kernel
theorem dX9_unpack_38 : decode cX9_unpack 38 = .ok (.iload_n 2, 1) := by decide +kernel
theorem dX9_unpack_39 : decode cX9_unpack 39 = .ok (.invokevirtual 111, 3) := by decide +kernel
theorem dX9_unpack_42 : decode cX9_unpack 42 = .ok (.ifCond .ne 19, 3) := by decide +kernel
theorem dX9_unpack_45 : decode cX9_unpack 45 = .ok (.aload_n 0, 1) := by decide +kernel
theorem dX9_unpack_46 : decode cX9_unpack 46 = .ok (.aload 4, 2) := by decide +kernel
theorem dX9_unpack_48 : decode cX9_unpack 48 = .ok (.getfield 115, 3) := by decide +kernel
theorem dX9_unpack_51 : decode cX9_unpack 51 = .ok (.putfield 43, 3) := by decide +kernel
theorem dX9_unpack_54 : decode cX9_unpack 54 = .ok (.aload 4, 2) := by decide +kernel
theorem dX9_unpack_56 : decode cX9_unpack 56 = .ok (.getfield 116, 3) := by decide +kernel
theorem dX9_unpack_59 : decode cX9_unpack 59 = .ok (.ineg, 1) := by decide +kernel
theorem dX9_unpack_60 : decode cX9_unpack 60 = .ok (.ireturn, 1) := by decide +kernel
theorem dX9_unpack_61 : decode cX9_unpack 61 = .ok (.aload_n 0, 1) := by decide +kernel
theorem dX9_unpack_62 : decode cX9_unpack 62 = .ok (.iconst (-1), 1) := by decide +kernel
theorem dX9_unpack_63 : decode cX9_unpack 63 = .ok (.putfield 43, 3) := by decide +kernel
theorem dX9_unpack_66 : decode cX9_unpack 66 = .ok (.aload_n 0, 1) := by decide +kernel
theorem dX9_unpack_67 : decode cX9_unpack 67 = .ok (.getfield 26, 3) := by decide +kernel
theorem dX9_unpack_70 : decode cX9_unpack 70 = .ok (.iconst 0, 1) := by decide +kernel
theorem dX9_unpack_71 : decode cX9_unpack 71 = .ok (.aload_n 0, 1) := by decide +kernel
theorem dX9_unpack_72 : decode cX9_unpack 72 = .ok (.getfield 19, 3) := by decide +kernel
theorem dX9_unpack_75 : decode cX9_unpack 75 = .ok (.iconst 0, 1) := by decide +kernel
theorem dX9_unpack_76 : decode cX9_unpack 76 = .ok (.iload_n 2, 1) := by decide +kernel
theorem dX9_unpack_77 : decode cX9_unpack 77 = .ok (.invokestatic 119, 3) := by decide +kernel
theorem dX9_unpack_80 : decode cX9_unpack 80 = .ok (.aload_n 0, 1) := by decide +kernel
theorem dX9_unpack_81 : decode cX9_unpack 81 = .ok (.iload_n 2, 1) := by decide +kernel
theorem dX9_unpack_82 : decode cX9_unpack 82 = .ok (.putfield 23, 3) := by decide +kernel
theorem dX9_unpack_85 : decode cX9_unpack 85 = .ok (.aload 4, 2) := by decide +kernel
theorem dX9_unpack_87 : decode cX9_unpack 87 = .ok (.invokevirtual 125, 3) := by decide +kernel
theorem dX9_unpack_90 : decode cX9_unpack 90 = .ok (.ireturn, 1) := by decide +kernel
theorem dX9_place_0 : decode cX9_place 0 = .ok (.aload_n 0, 1) := by decide +kernel
theorem dX9_place_1 : decode cX9_place 1 = .ok (.getfield 43, 3) := by decide +kernel
theorem dX9_place_4 : decode cX9_place 4 = .ok (.ireturn, 1) := by decide +kernel
theorem dX9_best_0 : decode cX9_best 0 = .ok (.iload_n 1, 1) := by decide +kernel
theorem dX9_best_1 : decode cX9_best 1 = .ok (.iconst 0, 1) := by decide +kernel
theorem dX9_best_2 : decode cX9_best 2 = .ok (.aload_n 0, 1) := by decide +kernel
theorem dX9_best_3 : decode cX9_best 3 = .ok (.getfield 15, 3) := by decide +kernel
theorem dX9_best_6 : decode cX9_best 6 = .ok (.iconst 1, 1) := by decide +kernel
theorem dX9_best_7 : decode cX9_best 7 = .ok (.isub, 1) := by decide +kernel
theorem dX9_best_8 : decode cX9_best 8 = .ok (.invokestatic 46, 3) := by decide +kernel
theorem dX9_best_11 : decode cX9_best 11 = .ok (.iload_n 2, 1) := by decide +kernel
theorem dX9_best_12 : decode cX9_best 12 = .ok (.iload_n 1, 1) := by decide +kernel
theorem dX9_best_13 : decode cX9_best 13 = .ok (.aload_n 0, 1) := by decide +kernel
theorem dX9_best_14 : decode cX9_best 14 = .ok (.getfield 15, 3) := by decide +kernel
theorem dX9_best_17 : decode cX9_best 17 = .ok (.iconst 1, 1) := by decide +kernel
theorem dX9_best_18 : decode cX9_best 18 = .ok (.isub, 1) := by decide +kernel
theorem dX9_best_19 : decode cX9_best 19 = .ok (.invokestatic 46, 3) := by decide +kernel
theorem dX9_best_22 : decode cX9_best 22 = .ok (.iconst (-1), 1) := by decide +kernel
theorem dX9_best_23 : decode cX9_best 23 = .ok (.istore_n 3, 1) := by decide +kernel
theorem dX9_best_24 : decode cX9_best 24 = .ok (.iconst (-1), 1) := by decide +kernel
theorem dX9_best_25 : decode cX9_best 25 = .ok (.istore 4, 2) := by decide +kernel
theorem dX9_best_27 : decode cX9_best 27 = .ok (.iload_n 1, 1) := by decide +kernel
theorem dX9_best_28 : decode cX9_best 28 = .ok (.istore 5, 2) := by decide +kernel
theorem dX9_best_30 : decode cX9_best 30 = .ok (.iload 5, 2) := by decide +kernel
theorem dX9_best_32 : decode cX9_best 32 = .ok (.iload_n 2, 1) := by decide +kernel
theorem dX9_best_33 : decode cX9_best 33 = .ok (.if_icmp .gt 48, 3) := by decide +kernel
theorem dX9_best_36 : decode cX9_best 36 = .ok (.aload_n 0, 1) := by decide +kernel
theorem dX9_best_37 : decode cX9_best 37 = .ok (.aload_n 0, 1) := by decide +kernel
theorem dX9_best_38 : decode cX9_best 38 = .ok (.getfield 11, 3) := by decide +kernel
theorem dX9_best_41 : decode cX9_best 41 = .ok (.iload 5, 2) := by decide +kernel
theorem dX9_best_43 : decode cX9_best 43 = .ok (.aaload, 1) := by decide +kernel
theorem dX9_best_44 : decode cX9_best 44 = .ok (.invokevirtual 93, 3) := by decide +kernel
theorem dX9_best_47 : decode cX9_best 47 = .ok (.istore 6, 2) := by decide +kernel
theorem dX9_best_49 : decode cX9_best 49 = .ok (.iload 6, 2) := by decide +kernel
theorem dX9_best_51 : decode cX9_best 51 = .ok (.iconst (-1), 1) := by decide +kernel
theorem dX9_best_52 : decode cX9_best 52 = .ok (.if_icmp .eq 23, 3) := by decide +kernel
theorem dX9_best_55 : decode cX9_best 55 = .ok (.iload 4, 2) := by decide +kernel
theorem dX9_best_57 : decode cX9_best 57 = .ok (.iconst (-1), 1) := by decide +kernel
theorem dX9_best_58 : decode cX9_best 58 = .ok (.if_icmp .eq 10, 3) := by decide +kernel
theorem dX9_best_61 : decode cX9_best 61 = .ok (.iload 6, 2) := by decide +kernel
theorem dX9_best_63 : decode cX9_best 63 = .ok (.iload 4, 2) := by decide +kernel
theorem dX9_best_65 : decode cX9_best 65 = .ok (.if_icmp .ge 10, 3) := by decide +kernel
theorem dX9_best_68 : decode cX9_best 68 = .ok (.iload 5, 2) := by decide +kernel
theorem dX9_best_70 : decode cX9_best 70 = .ok (.istore_n 3, 1) := by decide +kernel
theorem dX9_best_71 : decode cX9_best 71 = .ok (.iload 6, 2) := by decide +kernel
theorem dX9_best_73 : decode cX9_best 73 = .ok (.istore 4, 2) := by decide +kernel
theorem dX9_best_75 : decode cX9_best 75 = .ok (.iinc 5 1, 3) := by decide +kernel
theorem dX9_best_78 : decode cX9_best 78 = .ok (.goto (-48), 3) := by decide +kernel
theorem dX9_best_81 : decode cX9_best 81 = .ok (.iload_n 3, 1) := by decide +kernel
theorem dX9_best_82 : decode cX9_best 82 = .ok (.ireturn, 1) := by decide +kernel
theorem dX9_bestRun_0 : decode cX9_bestRun 0 = .ok (.aload_n 0, 1) := by decide +kernel
theorem dX9_bestRun_1 : decode cX9_bestRun 1 = .ok (.getfield 39, 3) := by decide +kernel
theorem dX9_bestRun_4 : decode cX9_bestRun 4 = .ok (.aload_n 0, 1) := by decide +kernel
theorem dX9_bestRun_5 : decode cX9_bestRun 5 = .ok (.getfield 23, 3) := by decide +kernel
theorem dX9_bestRun_8 : decode cX9_bestRun 8 = .ok (.invokevirtual 129, 3) := by decide +kernel
theorem dX9_bestRun_11 : decode cX9_bestRun 11 = .ok (.iconst 0, 1) := by decide +kernel
theorem dX9_bestRun_12 : decode cX9_bestRun 12 = .ok (.istore_n 1, 1) := by decide +kernel
theorem dX9_bestRun_13 : decode cX9_bestRun 13 = .ok (.iload_n 1, 1) := by decide +kernel
theorem dX9_bestRun_14 : decode cX9_bestRun 14 = .ok (.aload_n 0, 1) := by decide +kernel
theorem dX9_bestRun_15 : decode cX9_bestRun 15 = .ok (.getfield 15, 3) := by decide +kernel
theorem dX9_bestRun_18 : decode cX9_bestRun 18 = .ok (.if_icmp .ge 54, 3) := by decide +kernel
theorem dX9_bestRun_21 : decode cX9_bestRun 21 = .ok (.aload_n 0, 1) := by decide +kernel
theorem dX9_bestRun_22 : decode cX9_bestRun 22 = .ok (.getfield 11, 3) := by decide +kernel
theorem dX9_bestRun_25 : decode cX9_bestRun 25 = .ok (.iload_n 1, 1) := by decide +kernel
theorem dX9_bestRun_26 : decode cX9_bestRun 26 = .ok (.aaload, 1) := by decide +kernel
theorem dX9_bestRun_27 : decode cX9_bestRun 27 = .ok (.astore_n 3, 1) := by decide +kernel
theorem dX9_bestRun_28 : decode cX9_bestRun 28 = .ok (.aload_n 3, 1) := by decide +kernel
theorem dX9_bestRun_29 : decode cX9_bestRun 29 = .ok (.instanceof 54, 3) := by decide +kernel
theorem dX9_bestRun_32 : decode cX9_bestRun 32 = .ok (.ifCond .eq 34, 3) := by decide +kernel
theorem dX9_bestRun_35 : decode cX9_bestRun 35 = .ok (.aload_n 3, 1) := by decide +kernel
theorem dX9_bestRun_36 : decode cX9_bestRun 36 = .ok (.checkcast 54, 3) := by decide +kernel
theorem dX9_bestRun_39 : decode cX9_bestRun 39 = .ok (.astore_n 2, 1) := by decide +kernel
theorem dX9_bestRun_40 : decode cX9_bestRun 40 = .ok (.aload_n 0, 1) := by decide +kernel
theorem dX9_bestRun_41 : decode cX9_bestRun 41 = .ok (.getfield 39, 3) := by decide +kernel
theorem dX9_bestRun_44 : decode cX9_bestRun 44 = .ok (.aload_n 2, 1) := by decide +kernel
theorem dX9_bestRun_45 : decode cX9_bestRun 45 = .ok (.iload_n 1, 1) := by decide +kernel
theorem dX9_bestRun_46 : decode cX9_bestRun 46 = .ok (.aload_n 0, 1) := by decide +kernel
theorem dX9_bestRun_47 : decode cX9_bestRun 47 = .ok (.getfield 19, 3) := by decide +kernel
theorem dX9_bestRun_50 : decode cX9_bestRun 50 = .ok (.invokevirtual 132, 3) := by decide +kernel
theorem dX9_bestRun_53 : decode cX9_bestRun 53 = .ok (.aload_n 0, 1) := by decide +kernel
theorem dX9_bestRun_54 : decode cX9_bestRun 54 = .ok (.getfield 39, 3) := by decide +kernel
theorem dX9_bestRun_57 : decode cX9_bestRun 57 = .ok (.aload_n 2, 1) := by decide +kernel
theorem dX9_bestRun_58 : decode cX9_bestRun 58 = .ok (.iload_n 1, 1) := by decide +kernel
theorem dX9_bestRun_59 : decode cX9_bestRun 59 = .ok (.aload_n 0, 1) := by decide +kernel
theorem dX9_bestRun_60 : decode cX9_bestRun 60 = .ok (.getfield 19, 3) := by decide +kernel
theorem dX9_bestRun_63 : decode cX9_bestRun 63 = .ok (.invokevirtual 136, 3) := by decide +kernel
theorem dX9_bestRun_66 : decode cX9_bestRun 66 = .ok (.iinc 1 1, 3) := by decide +kernel
theorem dX9_bestRun_69 : decode cX9_bestRun 69 = .ok (.goto (-56), 3) := by decide +kernel
theorem dX9_bestRun_72 : decode cX9_bestRun 72 = .ok (.aload_n 0, 1) := by decide +kernel
theorem dX9_bestRun_73 : decode cX9_bestRun 73 = .ok (.getfield 39, 3) := by decide +kernel
theorem dX9_bestRun_76 : decode cX9_bestRun 76 = .ok (.invokevirtual 139, 3) := by decide +kernel
theorem dX9_bestRun_79 : decode cX9_bestRun 79 = .ok (.ireturn, 1) := by decide +kernel
theorem dX9_chosen_0 : decode cX9_chosen 0 = .ok (.iload_n 1, 1) := by decide +kernel
theorem dX9_chosen_1 : decode cX9_chosen 1 = .ok (.tableswitch 51 0 2 #[27, 35, 43], 27) := by decide +kernel
theorem dX9_chosen_28 : decode cX9_chosen 28 = .ok (.aload_n 0, 1) := by decide +kernel
theorem dX9_chosen_29 : decode cX9_chosen 29 = .ok (.getfield 39, 3) := by decide +kernel
theorem dX9_chosen_32 : decode cX9_chosen 32 = .ok (.getfield 142, 3) := by decide +kernel
theorem dX9_chosen_35 : decode cX9_chosen 35 = .ok (.ireturn, 1) := by decide +kernel
theorem dX9_chosen_36 : decode cX9_chosen 36 = .ok (.aload_n 0, 1) := by decide +kernel
theorem dX9_chosen_37 : decode cX9_chosen 37 = .ok (.getfield 39, 3) := by decide +kernel
theorem dX9_chosen_40 : decode cX9_chosen 40 = .ok (.getfield 145, 3) := by decide +kernel
theorem dX9_chosen_43 : decode cX9_chosen 43 = .ok (.ireturn, 1) := by decide +kernel
theorem dX9_chosen_44 : decode cX9_chosen 44 = .ok (.aload_n 0, 1) := by decide +kernel
theorem dX9_chosen_45 : decode cX9_chosen 45 = .ok (.getfield 39, 3) := by decide +kernel
theorem dX9_chosen_48 : decode cX9_chosen 48 = .ok (.getfield 148, 3) := by decide +kernel
theorem dX9_chosen_51 : decode cX9_chosen 51 = .ok (.ireturn, 1) := by decide +kernel
theorem dX9_chosen_52 : decode cX9_chosen 52 = .ok (.new 151, 3) := by decide +kernel
theorem dX9_chosen_55 : decode cX9_chosen 55 = .ok (.dup, 1) := by decide +kernel
theorem dX9_chosen_56 : decode cX9_chosen 56 = .ok (.ldc 153, 2) := by decide +kernel
theorem dX9_chosen_58 : decode cX9_chosen 58 = .ok (.invokespecial 155, 3) := by decide +kernel
theorem dX9_chosen_61 : decode cX9_chosen 61 = .ok (.athrow, 1) := by decide +kernel
theorem dX9_feed_0 : decode cX9_feed 0 = .ok (.aload_n 0, 1) := by decide +kernel
theorem dX9_feed_1 : decode cX9_feed 1 = .ok (.iconst 4, 1) := by decide +kernel
theorem dX9_feed_2 : decode cX9_feed 2 = .ok (.invokevirtual 96, 3) := by decide +kernel
theorem dX9_feed_5 : decode cX9_feed 5 = .ok (.aload_n 0, 1) := by decide +kernel
theorem dX9_feed_6 : decode cX9_feed 6 = .ok (.getfield 32, 3) := by decide +kernel
theorem dX9_feed_9 : decode cX9_feed 9 = .ok (.getfield 99, 3) := by decide +kernel
theorem dX9_feed_12 : decode cX9_feed 12 = .ok (.astore_n 2, 1) := by decide +kernel
theorem dX9_feed_13 : decode cX9_feed 13 = .ok (.aload_n 2, 1) := by decide +kernel
theorem dX9_feed_14 : decode cX9_feed 14 = .ok (.invokevirtual 156, 3) := by decide +kernel
theorem dX9_feed_17 : decode cX9_feed 17 = .ok (.bipush 24, 2) := by decide +kernel
theorem dX9_feed_19 : decode cX9_feed 19 = .ok (.istore_n 3, 1) := by decide +kernel
theorem dX9_feed_20 : decode cX9_feed 20 = .ok (.iload_n 3, 1) := by decide +kernel
theorem dX9_feed_21 : decode cX9_feed 21 = .ok (.ifCond .lt 16, 3) := by decide +kernel
theorem dX9_feed_24 : decode cX9_feed 24 = .ok (.aload_n 2, 1) := by decide +kernel
theorem dX9_feed_25 : decode cX9_feed 25 = .ok (.iload_n 1, 1) := by decide +kernel
theorem dX9_feed_26 : decode cX9_feed 26 = .ok (.iload_n 3, 1) := by decide +kernel
theorem dX9_feed_27 : decode cX9_feed 27 = .ok (.iushr, 1) := by decide +kernel
theorem dX9_feed_28 : decode cX9_feed 28 = .ok (.invokevirtual 159, 3) := by decide +kernel
theorem dX9_feed_31 : decode cX9_feed 31 = .ok (.iinc 3 (-8), 3) := by decide +kernel
theorem dX9_feed_34 : decode cX9_feed 34 = .ok (.goto (-14), 3) := by decide +kernel
theorem dX9_feed_37 : decode cX9_feed 37 = .ok (.aload_n 2, 1) := by decide +kernel
theorem dX9_feed_38 : decode cX9_feed 38 = .ok (.invokevirtual 103, 3) := by decide +kernel
theorem dX9_feed_41 : decode cX9_feed 41 = .ok (.aload_n 2, 1) := by decide +kernel
theorem dX9_feed_42 : decode cX9_feed 42 = .ok (.getfield 162, 3) := by decide +kernel
theorem dX9_feed_45 : decode cX9_feed 45 = .ok (.ireturn, 1) := by decide +kernel
theorem dX9_end_0 : decode cX9_end 0 = .ok (.aload_n 0, 1) := by decide +kernel
theorem dX9_end_1 : decode cX9_end 1 = .ok (.getfield 32, 3) := by decide +kernel
theorem dX9_end_4 : decode cX9_end 4 = .ok (.getfield 99, 3) := by decide +kernel
theorem dX9_end_7 : decode cX9_end 7 = .ok (.astore_n 2, 1) := by decide +kernel
theorem dX9_end_8 : decode cX9_end 8 = .ok (.iload_n 1, 1) := by decide +kernel
theorem dX9_end_9 : decode cX9_end 9 = .ok (.iconst 0, 1) := by decide +kernel
theorem dX9_end_10 : decode cX9_end 10 = .ok (.aload_n 2, 1) := by decide +kernel
theorem dX9_end_11 : decode cX9_end 11 = .ok (.getfield 162, 3) := by decide +kernel
theorem dX9_end_14 : decode cX9_end 14 = .ok (.invokestatic 46, 3) := by decide +kernel
theorem dX9_end_17 : decode cX9_end 17 = .ok (.aload_n 2, 1) := by decide +kernel
theorem dX9_end_18 : decode cX9_end 18 = .ok (.iload_n 1, 1) := by decide +kernel
theorem dX9_end_19 : decode cX9_end 19 = .ok (.putfield 162, 3) := by decide +kernel
theorem dX9_end_22 : decode cX9_end 22 = .ok (.aload_n 2, 1) := by decide +kernel
theorem dX9_end_23 : decode cX9_end 23 = .ok (.aload_n 2, 1) := by decide +kernel
theorem dX9_end_24 : decode cX9_end 24 = .ok (.getfield 165, 3) := by decide +kernel
theorem dX9_end_27 : decode cX9_end 27 = .ok (.iload_n 1, 1) := by decide +kernel
theorem dX9_end_28 : decode cX9_end 28 = .ok (.invokestatic 168, 3) := by decide +kernel
theorem dX9_end_31 : decode cX9_end 31 = .ok (.putfield 165, 3) := by decide +kernel
theorem dX9_end_34 : decode cX9_end 34 = .ok (.return_, 1) := by decide +kernel
theorem dX9_seek_0 : decode cX9_seek 0 = .ok (.aload_n 0, 1) := by decide +kernel
theorem dX9_seek_1 : decode cX9_seek 1 = .ok (.getfield 32, 3) := by decide +kernel
theorem dX9_seek_4 : decode cX9_seek 4 = .ok (.getfield 99, 3) := by decide +kernel
theorem dX9_seek_7 : decode cX9_seek 7 = .ok (.astore_n 2, 1) := by decide +kernel
theorem dX9_seek_8 : decode cX9_seek 8 = .ok (.iload_n 1, 1) := by decide +kernel
theorem dX9_seek_9 : decode cX9_seek 9 = .ok (.iconst 0, 1) := by decide +kernel
theorem dX9_seek_10 : decode cX9_seek 10 = .ok (.aload_n 2, 1) := by decide +kernel
theorem dX9_seek_11 : decode cX9_seek 11 = .ok (.getfield 162, 3) := by decide +kernel
theorem dX9_seek_14 : decode cX9_seek 14 = .ok (.invokestatic 46, 3) := by decide +kernel
theorem dX9_seek_17 : decode cX9_seek 17 = .ok (.aload_n 2, 1) := by decide +kernel
theorem dX9_seek_18 : decode cX9_seek 18 = .ok (.getfield 165, 3) := by decide +kernel
theorem dX9_seek_21 : decode cX9_seek 21 = .ok (.istore_n 3, 1) := by decide +kernel
theorem dX9_seek_22 : decode cX9_seek 22 = .ok (.aload_n 2, 1) := by decide +kernel
theorem dX9_seek_23 : decode cX9_seek 23 = .ok (.iload_n 1, 1) := by decide +kernel
theorem dX9_seek_24 : decode cX9_seek 24 = .ok (.putfield 165, 3) := by decide +kernel
theorem dX9_seek_27 : decode cX9_seek 27 = .ok (.iload_n 3, 1) := by decide +kernel
theorem dX9_seek_28 : decode cX9_seek 28 = .ok (.ireturn, 1) := by decide +kernel
theorem dX9_tape_0 : decode cX9_tape 0 = .ok (.aload_n 0, 1) := by decide +kernel
theorem dX9_tape_1 : decode cX9_tape 1 = .ok (.getfield 32, 3) := by decide +kernel
theorem dX9_tape_4 : decode cX9_tape 4 = .ok (.getfield 99, 3) := by decide +kernel
theorem dX9_tape_7 : decode cX9_tape 7 = .ok (.iload_n 1, 1) := by decide +kernel
theorem dX9_tape_8 : decode cX9_tape 8 = .ok (.invokevirtual 171, 3) := by decide +kernel
theorem dX9_tape_11 : decode cX9_tape 11 = .ok (.ireturn, 1) := by decide +kernel
theorem dX9_way_0 : decode cX9_way 0 = .ok (.aload_n 0, 1) := by decide +kernel
theorem dX9_way_1 : decode cX9_way 1 = .ok (.iload_n 1, 1) := by decide +kernel
theorem dX9_way_2 : decode cX9_way 2 = .ok (.invokevirtual 63, 3) := by decide +kernel
theorem dX9_way_5 : decode cX9_way 5 = .ok (.astore_n 3, 1) := by decide +kernel
theorem dX9_way_6 : decode cX9_way 6 = .ok (.iload_n 2, 1) := by decide +kernel
theorem dX9_way_7 : decode cX9_way 7 = .ok (.iconst 0, 1) := by decide +kernel
theorem dX9_way_8 : decode cX9_way 8 = .ok (.iconst 4, 1) := by decide +kernel
theorem dX9_way_9 : decode cX9_way 9 = .ok (.invokestatic 46, 3) := by decide +kernel
theorem dX9_way_12 : decode cX9_way 12 = .ok (.iload_n 2, 1) := by decide +kernel
theorem dX9_way_13 : decode cX9_way 13 = .ok (.iconst 4, 1) := by decide +kernel
theorem dX9_way_14 : decode cX9_way 14 = .ok (.if_icmp .ne 10, 3) := by decide +kernel
theorem dX9_way_17 : decode cX9_way 17 = .ok (.aload_n 3, 1) := by decide +kernel
theorem dX9_way_18 : decode cX9_way 18 = .ok (.getfield 67, 3) := by decide +kernel
theorem dX9_way_21 : decode cX9_way 21 = .ok (.goto 8, 3) := by decide +kernel
theorem dX9_way_24 : decode cX9_way 24 = .ok (.aload_n 3, 1) := by decide +kernel
theorem dX9_way_25 : decode cX9_way 25 = .ok (.iload_n 2, 1) := by decide +kernel
theorem dX9_way_26 : decode cX9_way 26 = .ok (.invokevirtual 175, 3) := by decide +kernel
theorem dX9_way_29 : decode cX9_way 29 = .ok (.ireturn, 1) := by decide +kernel
theorem dX9_about_0 : decode cX9_about 0 = .ok (.iload_n 1, 1) := by decide +kernel
theorem dX9_about_1 : decode cX9_about 1 = .ok (.tableswitch 63 0 3 #[31, 36, 41, 52], 31) := by decide +kernel
theorem dX9_about_32 : decode cX9_about 32 = .ok (.aload_n 0, 1) := by decide +kernel
theorem dX9_about_33 : decode cX9_about 33 = .ok (.getfield 15, 3) := by decide +kernel
theorem dX9_about_36 : decode cX9_about 36 = .ok (.ireturn, 1) := by decide +kernel
theorem dX9_about_37 : decode cX9_about 37 = .ok (.aload_n 0, 1) := by decide +kernel
theorem dX9_about_38 : decode cX9_about 38 = .ok (.getfield 23, 3) := by decide +kernel
theorem dX9_about_41 : decode cX9_about 41 = .ok (.ireturn, 1) := by decide +kernel
theorem dX9_about_42 : decode cX9_about 42 = .ok (.aload_n 0, 1) := by decide +kernel
theorem dX9_about_43 : decode cX9_about 43 = .ok (.getfield 32, 3) := by decide +kernel
theorem dX9_about_46 : decode cX9_about 46 = .ok (.getfield 99, 3) := by decide +kernel
theorem dX9_about_49 : decode cX9_about 49 = .ok (.getfield 162, 3) := by decide +kernel
theorem dX9_about_52 : decode cX9_about 52 = .ok (.ireturn, 1) := by decide +kernel
theorem dX9_about_53 : decode cX9_about 53 = .ok (.aload_n 0, 1) := by decide +kernel
theorem dX9_about_54 : decode cX9_about 54 = .ok (.getfield 32, 3) := by decide +kernel
theorem dX9_about_57 : decode cX9_about 57 = .ok (.getfield 99, 3) := by decide +kernel
theorem dX9_about_60 : decode cX9_about 60 = .ok (.getfield 165, 3) := by decide +kernel
theorem dX9_about_63 : decode cX9_about 63 = .ok (.ireturn, 1) := by decide +kernel
theorem dX9_about_64 : decode cX9_about 64 = .ok (.new 151, 3) := by decide +kernel
theorem dX9_about_67 : decode cX9_about 67 = .ok (.dup, 1) := by decide +kernel
theorem dX9_about_68 : decode cX9_about 68 = .ok (.ldc 178, 2) := by decide +kernel
theorem dX9_about_70 : decode cX9_about 70 = .ok (.invokespecial 155, 3) := by decide +kernel
theorem dX9_about_73 : decode cX9_about 73 = .ok (.athrow, 1) := by decide +kernel
theorem dX9_checkRange_0 : decode cX9_checkRange 0 = .ok (.iload_n 0, 1) := by decide +kernel
theorem dX9_checkRange_1 : decode cX9_checkRange 1 = .ok (.iload_n 1, 1) := by decide +kernel
theorem dX9_checkRange_2 : decode cX9_checkRange 2 = .ok (.if_icmp .lt 8, 3) := by decide +kernel
theorem dX9_checkRange_5 : decode cX9_checkRange 5 = .ok (.iload_n 0, 1) := by decide +kernel
theorem dX9_checkRange_6 : decode cX9_checkRange 6 = .ok (.iload_n 2, 1) := by decide +kernel
theorem dX9_checkRange_7 : decode cX9_checkRange 7 = .ok (.if_icmp .le 13, 3) := by decide +kernel
theorem dX9_checkRange_10 : decode cX9_checkRange 10 = .ok (.new 151, 3) := by decide +kernel
theorem dX9_checkRange_13 : decode cX9_checkRange 13 = .ok (.dup, 1) := by decide +kernel
theorem dX9_checkRange_14 : decode cX9_checkRange 14 = .ok (.ldc 180, 2) := by decide +kernel
theorem dX9_checkRange_16 : decode cX9_checkRange 16 = .ok (.invokespecial 155, 3) := by decide +kernel
theorem dX9_checkRange_19 : decode cX9_checkRange 19 = .ok (.athrow, 1) := by decide +kernel
theorem dX9_checkRange_20 : decode cX9_checkRange 20 = .ok (.return_, 1) := by decide +kernel
theorem dX9_wayAt_0 : decode cX9_wayAt 0 = .ok (.iload_n 1, 1) := by decide +kernel
theorem dX9_wayAt_1 : decode cX9_wayAt 1 = .ok (.iconst 0, 1) := by decide +kernel
theorem dX9_wayAt_2 : decode cX9_wayAt 2 = .ok (.aload_n 0, 1) := by decide +kernel
theorem dX9_wayAt_3 : decode cX9_wayAt 3 = .ok (.getfield 15, 3) := by decide +kernel
theorem dX9_wayAt_6 : decode cX9_wayAt 6 = .ok (.iconst 1, 1) := by decide +kernel
theorem dX9_wayAt_7 : decode cX9_wayAt 7 = .ok (.isub, 1) := by decide +kernel
theorem dX9_wayAt_8 : decode cX9_wayAt 8 = .ok (.invokestatic 46, 3) := by decide +kernel
theorem dX9_wayAt_11 : decode cX9_wayAt 11 = .ok (.aload_n 0, 1) := by decide +kernel
theorem dX9_wayAt_12 : decode cX9_wayAt 12 = .ok (.getfield 11, 3) := by decide +kernel
theorem dX9_wayAt_15 : decode cX9_wayAt 15 = .ok (.iload_n 1, 1) := by decide +kernel
theorem dX9_wayAt_16 : decode cX9_wayAt 16 = .ok (.aaload, 1) := by decide +kernel
theorem dX9_wayAt_17 : decode cX9_wayAt 17 = .ok (.areturn, 1) := by decide +kernel
theorem dX9_checkRoomForWay_0 : decode cX9_checkRoomForWay 0 = .ok (.aload_n 0, 1) := by decide +kernel
theorem dX9_checkRoomForWay_1 : decode cX9_checkRoomForWay 1 = .ok (.getfield 15, 3) := by decide +kernel
theorem dX9_checkRoomForWay_4 : decode cX9_checkRoomForWay 4 = .ok (.bipush 40, 2) := by decide +kernel
theorem dX9_checkRoomForWay_6 : decode cX9_checkRoomForWay 6 = .ok (.if_icmp .lt 13, 3) := by decide +kernel
theorem dX9_checkRoomForWay_9 : decode cX9_checkRoomForWay 9 = .ok (.new 86, 3) := by decide +kernel
theorem dX9_checkRoomForWay_12 : decode cX9_checkRoomForWay 12 = .ok (.dup, 1) := by decide +kernel
theorem dX9_checkRoomForWay_13 : decode cX9_checkRoomForWay 13 = .ok (.ldc 182, 2) := by decide +kernel
theorem dX9_checkRoomForWay_15 : decode cX9_checkRoomForWay 15 = .ok (.invokespecial 90, 3) := by decide +kernel
theorem dX9_checkRoomForWay_18 : decode cX9_checkRoomForWay 18 = .ok (.athrow, 1) := by decide +kernel
theorem dX9_checkRoomForWay_19 : decode cX9_checkRoomForWay 19 = .ok (.iload_n 1, 1) := by decide +kernel
theorem dX9_checkRoomForWay_20 : decode cX9_checkRoomForWay 20 = .ok (.iconst 4, 1) := by decide +kernel
theorem dX9_checkRoomForWay_21 : decode cX9_checkRoomForWay 21 = .ok (.if_icmp .le 13, 3) := by decide +kernel
theorem dX9_checkRoomForWay_24 : decode cX9_checkRoomForWay 24 = .ok (.new 86, 3) := by decide +kernel
theorem dX9_checkRoomForWay_27 : decode cX9_checkRoomForWay 27 = .ok (.dup, 1) := by decide +kernel
theorem dX9_checkRoomForWay_28 : decode cX9_checkRoomForWay 28 = .ok (.ldc 184, 2) := by decide +kernel
theorem dX9_checkRoomForWay_30 : decode cX9_checkRoomForWay 30 = .ok (.invokespecial 90, 3) := by decide +kernel
theorem dX9_checkRoomForWay_33 : decode cX9_checkRoomForWay 33 = .ok (.athrow, 1) := by decide +kernel
theorem dX9_checkRoomForWay_34 : decode cX9_checkRoomForWay 34 = .ok (.return_, 1) := by decide +kernel
theorem dX9_addWay_0 : decode cX9_addWay 0 = .ok (.aload_n 0, 1) := by decide +kernel
theorem dX9_addWay_1 : decode cX9_addWay 1 = .ok (.getfield 11, 3) := by decide +kernel
theorem dX9_addWay_4 : decode cX9_addWay 4 = .ok (.aload_n 0, 1) := by decide +kernel
theorem dX9_addWay_5 : decode cX9_addWay 5 = .ok (.getfield 15, 3) := by decide +kernel
theorem dX9_addWay_8 : decode cX9_addWay 8 = .ok (.aload_n 1, 1) := by decide +kernel
theorem dX9_addWay_9 : decode cX9_addWay 9 = .ok (.aastore, 1) := by decide +kernel
theorem dX9_addWay_10 : decode cX9_addWay 10 = .ok (.aload_n 0, 1) := by decide +kernel
theorem dX9_addWay_11 : decode cX9_addWay 11 = .ok (.dup, 1) := by decide +kernel
theorem dX9_addWay_12 : decode cX9_addWay 12 = .ok (.getfield 15, 3) := by decide +kernel
theorem dX9_addWay_15 : decode cX9_addWay 15 = .ok (.iconst 1, 1) := by decide +kernel
theorem dX9_addWay_16 : decode cX9_addWay 16 = .ok (.iadd, 1) := by decide +kernel
theorem dX9_addWay_17 : decode cX9_addWay 17 = .ok (.putfield 15, 3) := by decide +kernel
theorem dX9_addWay_20 : decode cX9_addWay 20 = .ok (.aload_n 0, 1) := by decide +kernel
theorem dX9_addWay_21 : decode cX9_addWay 21 = .ok (.getfield 15, 3) := by decide +kernel
theorem dX9_addWay_24 : decode cX9_addWay 24 = .ok (.iconst 1, 1) := by decide +kernel
theorem dX9_addWay_25 : decode cX9_addWay 25 = .ok (.isub, 1) := by decide +kernel
theorem dX9_addWay_26 : decode cX9_addWay 26 = .ok (.ireturn, 1) := by decide +kernel
theorem dX9_checkRoomOnTape_0 : decode cX9_checkRoomOnTape 0 = .ok (.iload_n 1, 1) := by decide +kernel
theorem dX9_checkRoomOnTape_1 : decode cX9_checkRoomOnTape 1 = .ok (.sipush 8000, 3) := by decide +kernel
theorem dX9_checkRoomOnTape_4 : decode cX9_checkRoomOnTape 4 = .ok (.aload_n 0, 1) := by decide +kernel
theorem dX9_checkRoomOnTape_5 : decode cX9_checkRoomOnTape 5 = .ok (.getfield 32, 3) := by decide +kernel
theorem dX9_checkRoomOnTape_8 : decode cX9_checkRoomOnTape 8 = .ok (.getfield 99, 3) := by decide +kernel
theorem dX9_checkRoomOnTape_11 : decode cX9_checkRoomOnTape 11 = .ok (.getfield 162, 3) := by decide +kernel
theorem dX9_checkRoomOnTape_14 : decode cX9_checkRoomOnTape 14 = .ok (.isub, 1) := by decide +kernel
theorem dX9_checkRoomOnTape_15 : decode cX9_checkRoomOnTape 15 = .ok (.if_icmp .le 13, 3) := by decide +kernel
theorem dX9_checkRoomOnTape_18 : decode cX9_checkRoomOnTape 18 = .ok (.new 86, 3) := by decide +kernel
theorem dX9_checkRoomOnTape_21 : decode cX9_checkRoomOnTape 21 = .ok (.dup, 1) := by decide +kernel
theorem dX9_checkRoomOnTape_22 : decode cX9_checkRoomOnTape 22 = .ok (.ldc 186, 2) := by decide +kernel
theorem dX9_checkRoomOnTape_24 : decode cX9_checkRoomOnTape 24 = .ok (.invokespecial 90, 3) := by decide +kernel
theorem dX9_checkRoomOnTape_27 : decode cX9_checkRoomOnTape 27 = .ok (.athrow, 1) := by decide +kernel
theorem dX9_checkRoomOnTape_28 : decode cX9_checkRoomOnTape 28 = .ok (.return_, 1) := by decide +kernel
theorem dX9_draftRow_0 : decode cX9_draftRow 0 = .ok (.aload_n 0, 1) := by decide +kernel
theorem dX9_draftRow_1 : decode cX9_draftRow 1 = .ok (.getfield 32, 3) := by decide +kernel
theorem dX9_draftRow_4 : decode cX9_draftRow 4 = .ok (.getfield 99, 3) := by decide +kernel
theorem dX9_draftRow_7 : decode cX9_draftRow 7 = .ok (.astore_n 2, 1) := by decide +kernel
theorem dX9_draftRow_8 : decode cX9_draftRow 8 = .ok (.aload_n 2, 1) := by decide +kernel
theorem dX9_draftRow_9 : decode cX9_draftRow 9 = .ok (.invokevirtual 156, 3) := by decide +kernel
theorem dX9_draftRow_12 : decode cX9_draftRow 12 = .ok (.aload_n 1, 1) := by decide +kernel
theorem dX9_draftRow_13 : decode cX9_draftRow 13 = .ok (.aload_n 0, 1) := by decide +kernel
theorem dX9_draftRow_14 : decode cX9_draftRow 14 = .ok (.getfield 32, 3) := by decide +kernel
theorem dX9_draftRow_17 : decode cX9_draftRow 17 = .ok (.aload_n 0, 1) := by decide +kernel
theorem dX9_draftRow_18 : decode cX9_draftRow 18 = .ok (.getfield 19, 3) := by decide +kernel
theorem dX9_draftRow_21 : decode cX9_draftRow 21 = .ok (.iconst 0, 1) := by decide +kernel
theorem dX9_draftRow_22 : decode cX9_draftRow 22 = .ok (.aload_n 0, 1) := by decide +kernel
theorem dX9_draftRow_23 : decode cX9_draftRow 23 = .ok (.getfield 23, 3) := by decide +kernel
theorem dX9_draftRow_26 : decode cX9_draftRow 26 = .ok (.invokevirtual 188, 3) := by decide +kernel
theorem dX9_draftRow_29 : decode cX9_draftRow 29 = .ok (.ifCond .eq 10, 3) := by decide +kernel
theorem dX9_draftRow_32 : decode cX9_draftRow 32 = .ok (.aload_n 2, 1) := by decide +kernel
theorem dX9_draftRow_33 : decode cX9_draftRow 33 = .ok (.getfield 191, 3) := by decide +kernel
theorem dX9_draftRow_36 : decode cX9_draftRow 36 = .ok (.goto 4, 3) := by decide +kernel
theorem dX9_draftRow_39 : decode cX9_draftRow 39 = .ok (.iconst (-1), 1) := by decide +kernel
theorem dX9_draftRow_40 : decode cX9_draftRow 40 = .ok (.ireturn, 1) := by decide +kernel
theorem dX10_init_0 : decode cX10_init 0 = .ok (.aload_n 0, 1) := by decide +kernel
theorem dX10_init_1 : decode cX10_init 1 = .ok (.invokespecial 1, 3) := by decide +kernel
theorem dX10_init_4 : decode cX10_init 4 = .ok (.aload_n 0, 1) := by decide +kernel
theorem dX10_init_5 : decode cX10_init 5 = .ok (.bipush 40, 2) := by decide +kernel
theorem dX10_init_7 : decode cX10_init 7 = .ok (.newarray .int, 2) := by decide +kernel
theorem dX10_init_9 : decode cX10_init 9 = .ok (.putfield 7, 3) := by decide +kernel
theorem dX10_init_12 : decode cX10_init 12 = .ok (.aload_n 0, 1) := by decide +kernel
theorem dX10_init_13 : decode cX10_init 13 = .ok (.bipush 40, 2) := by decide +kernel
theorem dX10_init_15 : decode cX10_init 15 = .ok (.newarray .int, 2) := by decide +kernel
theorem dX10_init_17 : decode cX10_init 17 = .ok (.putfield 13, 3) := by decide +kernel
theorem dX10_init_20 : decode cX10_init 20 = .ok (.aload_n 0, 1) := by decide +kernel
theorem dX10_init_21 : decode cX10_init 21 = .ok (.bipush 40, 2) := by decide +kernel
theorem dX10_init_23 : decode cX10_init 23 = .ok (.newarray .int, 2) := by decide +kernel
theorem dX10_init_25 : decode cX10_init 25 = .ok (.putfield 16, 3) := by decide +kernel
theorem dX10_init_28 : decode cX10_init 28 = .ok (.aload_n 0, 1) := by decide +kernel
theorem dX10_init_29 : decode cX10_init 29 = .ok (.bipush 40, 2) := by decide +kernel
theorem dX10_init_31 : decode cX10_init 31 = .ok (.newarray .int, 2) := by decide +kernel
theorem dX10_init_33 : decode cX10_init 33 = .ok (.putfield 19, 3) := by decide +kernel
theorem dX10_init_36 : decode cX10_init 36 = .ok (.aload_n 0, 1) := by decide +kernel
theorem dX10_init_37 : decode cX10_init 37 = .ok (.bipush 40, 2) := by decide +kernel
theorem dX10_init_39 : decode cX10_init 39 = .ok (.newarray .int, 2) := by decide +kernel
theorem dX10_init_41 : decode cX10_init 41 = .ok (.putfield 22, 3) := by decide +kernel
theorem dX10_init_44 : decode cX10_init 44 = .ok (.aload_n 0, 1) := by decide +kernel
theorem dX10_init_45 : decode cX10_init 45 = .ok (.bipush 40, 2) := by decide +kernel
theorem dX10_init_47 : decode cX10_init 47 = .ok (.newarray .int, 2) := by decide +kernel
theorem dX10_init_49 : decode cX10_init 49 = .ok (.putfield 25, 3) := by decide +kernel
theorem dX10_init_52 : decode cX10_init 52 = .ok (.aload_n 0, 1) := by decide +kernel
theorem dX10_init_53 : decode cX10_init 53 = .ok (.sipush 400, 3) := by decide +kernel
theorem dX10_init_56 : decode cX10_init 56 = .ok (.newarray .int, 2) := by decide +kernel
theorem dX10_init_58 : decode cX10_init 58 = .ok (.putfield 28, 3) := by decide +kernel
theorem dX10_init_61 : decode cX10_init 61 = .ok (.aload_n 0, 1) := by decide +kernel
theorem dX10_init_62 : decode cX10_init 62 = .ok (.sipush 8000, 3) := by decide +kernel
theorem dX10_init_65 : decode cX10_init 65 = .ok (.newarray .int, 2) := by decide +kernel
theorem dX10_init_67 : decode cX10_init 67 = .ok (.putfield 31, 3) := by decide +kernel
theorem dX10_init_70 : decode cX10_init 70 = .ok (.aload_n 0, 1) := by decide +kernel
theorem dX10_init_71 : decode cX10_init 71 = .ok (.iconst (-1), 1) := by decide +kernel
theorem dX10_init_72 : decode cX10_init 72 = .ok (.putfield 34, 3) := by decide +kernel
theorem dX10_init_75 : decode cX10_init 75 = .ok (.aload_n 0, 1) := by decide +kernel
theorem dX10_init_76 : decode cX10_init 76 = .ok (.iconst (-1), 1) := by decide +kernel
theorem dX10_init_77 : decode cX10_init 77 = .ok (.putfield 38, 3) := by decide +kernel
theorem dX10_init_80 : decode cX10_init 80 = .ok (.aload_n 0, 1) := by decide +kernel
theorem dX10_init_81 : decode cX10_init 81 = .ok (.iconst (-1), 1) := by decide +kernel
theorem dX10_init_82 : decode cX10_init 82 = .ok (.putfield 41, 3) := by decide +kernel
theorem dX10_init_85 : decode cX10_init 85 = .ok (.aload_n 0, 1) := by decide +kernel
theorem dX10_init_86 : decode cX10_init 86 = .ok (.iconst (-1), 1) := by decide +kernel
theorem dX10_init_87 : decode cX10_init 87 = .ok (.putfield 44, 3) := by decide +kernel
theorem dX10_init_90 : decode cX10_init 90 = .ok (.aload_n 0, 1) := by decide +kernel
theorem dX10_init_91 : decode cX10_init 91 = .ok (.ldc 47, 2) := by decide +kernel
theorem dX10_init_93 : decode cX10_init 93 = .ok (.newarray .int, 2) := by decide +kernel
theorem dX10_init_95 : decode cX10_init 95 = .ok (.putfield 48, 3) := by decide +kernel
theorem dX10_init_98 : decode cX10_init 98 = .ok (.aload_n 0, 1) := by decide +kernel
theorem dX10_init_99 : decode cX10_init 99 = .ok (.bipush 80, 2) := by decide +kernel
theorem dX10_init_101 : decode cX10_init 101 = .ok (.newarray .int, 2) := by decide +kernel
theorem dX10_init_103 : decode cX10_init 103 = .ok (.putfield 51, 3) := by decide +kernel
theorem dX10_init_106 : decode cX10_init 106 = .ok (.aload_n 0, 1) := by decide +kernel
theorem dX10_init_107 : decode cX10_init 107 = .ok (.bipush 80, 2) := by decide +kernel
theorem dX10_init_109 : decode cX10_init 109 = .ok (.newarray .int, 2) := by decide +kernel
theorem dX10_init_111 : decode cX10_init 111 = .ok (.putfield 54, 3) := by decide +kernel
theorem dX10_init_114 : decode cX10_init 114 = .ok (.aload_n 0, 1) := by decide +kernel
theorem dX10_init_115 : decode cX10_init 115 = .ok (.bipush 80, 2) := by decide +kernel
theorem dX10_init_117 : decode cX10_init 117 = .ok (.newarray .int, 2) := by decide +kernel
theorem dX10_init_119 : decode cX10_init 119 = .ok (.putfield 57, 3) := by decide +kernel
theorem dX10_init_122 : decode cX10_init 122 = .ok (.aload_n 0, 1) := by decide +kernel
theorem dX10_init_123 : decode cX10_init 123 = .ok (.sipush 400, 3) := by decide +kernel
theorem dX10_init_126 : decode cX10_init 126 = .ok (.newarray .int, 2) := by decide +kernel
theorem dX10_init_128 : decode cX10_init 128 = .ok (.putfield 60, 3) := by decide +kernel
theorem dX10_init_131 : decode cX10_init 131 = .ok (.aload_n 0, 1) := by decide +kernel
theorem dX10_init_132 : decode cX10_init 132 = .ok (.sipush 8000, 3) := by decide +kernel
theorem dX10_init_135 : decode cX10_init 135 = .ok (.newarray .int, 2) := by decide +kernel
theorem dX10_init_137 : decode cX10_init 137 = .ok (.putfield 63, 3) := by decide +kernel
theorem dX10_init_140 : decode cX10_init 140 = .ok (.aload_n 0, 1) := by decide +kernel
theorem dX10_init_141 : decode cX10_init 141 = .ok (.bipush 8, 2) := by decide +kernel
theorem dX10_init_143 : decode cX10_init 143 = .ok (.newarray .int, 2) := by decide +kernel
theorem dX10_init_145 : decode cX10_init 145 = .ok (.putfield 66, 3) := by decide +kernel
theorem dX10_init_148 : decode cX10_init 148 = .ok (.aload_n 0, 1) := by decide +kernel
theorem dX10_init_149 : decode cX10_init 149 = .ok (.bipush 8, 2) := by decide +kernel
theorem dX10_init_151 : decode cX10_init 151 = .ok (.newarray .int, 2) := by decide +kernel
theorem dX10_init_153 : decode cX10_init 153 = .ok (.putfield 69, 3) := by decide +kernel
theorem dX10_init_156 : decode cX10_init 156 = .ok (.aload_n 0, 1) := by decide +kernel
theorem dX10_init_157 : decode cX10_init 157 = .ok (.bipush 8, 2) := by decide +kernel
theorem dX10_init_159 : decode cX10_init 159 = .ok (.newarray .int, 2) := by decide +kernel
theorem dX10_init_161 : decode cX10_init 161 = .ok (.putfield 72, 3) := by decide +kernel
theorem dX10_init_164 : decode cX10_init 164 = .ok (.aload_n 0, 1) := by decide +kernel
theorem dX10_init_165 : decode cX10_init 165 = .ok (.bipush 8, 2) := by decide +kernel
theorem dX10_init_167 : decode cX10_init 167 = .ok (.newarray .int, 2) := by decide +kernel
theorem dX10_init_169 : decode cX10_init 169 = .ok (.putfield 75, 3) := by decide +kernel
theorem dX10_init_172 : decode cX10_init 172 = .ok (.aload_n 0, 1) := by decide +kernel
theorem dX10_init_173 : decode cX10_init 173 = .ok (.bipush 8, 2) := by decide +kernel
theorem dX10_init_175 : decode cX10_init 175 = .ok (.newarray .int, 2) := by decide +kernel
theorem dX10_init_177 : decode cX10_init 177 = .ok (.putfield 78, 3) := by decide +kernel
theorem dX10_init_180 : decode cX10_init 180 = .ok (.aload_n 0, 1) := by decide +kernel
theorem dX10_init_181 : decode cX10_init 181 = .ok (.bipush 8, 2) := by decide +kernel
theorem dX10_init_183 : decode cX10_init 183 = .ok (.newarray .int, 2) := by decide +kernel
theorem dX10_init_185 : decode cX10_init 185 = .ok (.putfield 81, 3) := by decide +kernel
theorem dX10_init_188 : decode cX10_init 188 = .ok (.aload_n 0, 1) := by decide +kernel
theorem dX10_init_189 : decode cX10_init 189 = .ok (.bipush 8, 2) := by decide +kernel
theorem dX10_init_191 : decode cX10_init 191 = .ok (.newarray .int, 2) := by decide +kernel
theorem dX10_init_193 : decode cX10_init 193 = .ok (.putfield 84, 3) := by decide +kernel
theorem dX10_init_196 : decode cX10_init 196 = .ok (.aload_n 0, 1) := by decide +kernel
theorem dX10_init_197 : decode cX10_init 197 = .ok (.bipush 8, 2) := by decide +kernel
theorem dX10_init_199 : decode cX10_init 199 = .ok (.newarray .int, 2) := by decide +kernel
theorem dX10_init_201 : decode cX10_init 201 = .ok (.putfield 87, 3) := by decide +kernel
theorem dX10_init_204 : decode cX10_init 204 = .ok (.aload_n 0, 1) := by decide +kernel
theorem dX10_init_205 : decode cX10_init 205 = .ok (.bipush 8, 2) := by decide +kernel
theorem dX10_init_207 : decode cX10_init 207 = .ok (.newarray .int, 2) := by decide +kernel
theorem dX10_init_209 : decode cX10_init 209 = .ok (.putfield 90, 3) := by decide +kernel
theorem dX10_init_212 : decode cX10_init 212 = .ok (.aload_n 0, 1) := by decide +kernel
theorem dX10_init_213 : decode cX10_init 213 = .ok (.sipush 16040, 3) := by decide +kernel
theorem dX10_init_216 : decode cX10_init 216 = .ok (.newarray .int, 2) := by decide +kernel
theorem dX10_init_218 : decode cX10_init 218 = .ok (.putfield 93, 3) := by decide +kernel
theorem dX10_init_221 : decode cX10_init 221 = .ok (.aload_n 0, 1) := by decide +kernel
theorem dX10_init_222 : decode cX10_init 222 = .ok (.sipush 16040, 3) := by decide +kernel
theorem dX10_init_225 : decode cX10_init 225 = .ok (.newarray .int, 2) := by decide +kernel
theorem dX10_init_227 : decode cX10_init 227 = .ok (.putfield 96, 3) := by decide +kernel
theorem dX10_init_230 : decode cX10_init 230 = .ok (.return_, 1) := by decide +kernel
theorem dX10_thrown_0 : decode cX10_thrown 0 = .ok (.aload_n 0, 1) := by decide +kernel
theorem dX10_thrown_1 : decode cX10_thrown 1 = .ok (.getfield 99, 3) := by decide +kernel
theorem dX10_thrown_4 : decode cX10_thrown 4 = .ok (.ireturn, 1) := by decide +kernel
theorem dX10_refuses_0 : decode cX10_refuses 0 = .ok (.aload_n 0, 1) := by decide +kernel
theorem dX10_refuses_1 : decode cX10_refuses 1 = .ok (.iload_n 1, 1) := by decide +kernel
theorem dX10_refuses_2 : decode cX10_refuses 2 = .ok (.putfield 99, 3) := by decide +kernel
theorem dX10_refuses_5 : decode cX10_refuses 5 = .ok (.iload_n 1, 1) := by decide +kernel
theorem dX10_refuses_6 : decode cX10_refuses 6 = .ok (.ifCond .le 7, 3) := by decide +kernel
theorem dX10_refuses_9 : decode cX10_refuses 9 = .ok (.iconst 1, 1) := by decide +kernel
theorem dX10_refuses_10 : decode cX10_refuses 10 = .ok (.goto 4, 3) := by decide +kernel
theorem dX10_refuses_13 : decode cX10_refuses 13 = .ok (.iconst 0, 1) := by decide +kernel
theorem dX10_refuses_14 : decode cX10_refuses 14 = .ok (.ireturn, 1) := by decide +kernel
theorem dX10_isWay_0 : decode cX10_isWay 0 = .ok (.iload_n 1, 1) := by decide +kernel
theorem dX10_isWay_1 : decode cX10_isWay 1 = .ok (.ifCond .lt 15, 3) := by decide +kernel
theorem dX10_isWay_4 : decode cX10_isWay 4 = .ok (.iload_n 1, 1) := by decide +kernel
theorem dX10_isWay_5 : decode cX10_isWay 5 = .ok (.aload_n 0, 1) := by decide +kernel
theorem dX10_isWay_6 : decode cX10_isWay 6 = .ok (.getfield 102, 3) := by decide +kernel
theorem dX10_isWay_9 : decode cX10_isWay 9 = .ok (.if_icmp .ge 7, 3) := by decide +kernel
theorem dX10_isWay_12 : decode cX10_isWay 12 = .ok (.iconst 1, 1) := by decide +kernel
theorem dX10_isWay_13 : decode cX10_isWay 13 = .ok (.goto 4, 3) := by decide +kernel
theorem dX10_isWay_16 : decode cX10_isWay 16 = .ok (.iconst 0, 1) := by decide +kernel
theorem dX10_isWay_17 : decode cX10_isWay 17 = .ok (.ireturn, 1) := by decide +kernel
theorem dX10_add_0 : decode cX10_add 0 = .ok (.aload_n 0, 1) := by decide +kernel
theorem dX10_add_1 : decode cX10_add 1 = .ok (.getfield 7, 3) := by decide +kernel
theorem dX10_add_4 : decode cX10_add 4 = .ok (.aload_n 0, 1) := by decide +kernel
theorem dX10_add_5 : decode cX10_add 5 = .ok (.getfield 102, 3) := by decide +kernel
theorem dX10_add_8 : decode cX10_add 8 = .ok (.iload_n 1, 1) := by decide +kernel
theorem dX10_add_9 : decode cX10_add 9 = .ok (.iastore, 1) := by decide +kernel
theorem dX10_add_10 : decode cX10_add 10 = .ok (.aload_n 0, 1) := by decide +kernel
theorem dX10_add_11 : decode cX10_add 11 = .ok (.getfield 13, 3) := by decide +kernel
theorem dX10_add_14 : decode cX10_add 14 = .ok (.aload_n 0, 1) := by decide +kernel
theorem dX10_add_15 : decode cX10_add 15 = .ok (.getfield 102, 3) := by decide +kernel
theorem dX10_add_18 : decode cX10_add 18 = .ok (.iload_n 2, 1) := by decide +kernel
theorem dX10_add_19 : decode cX10_add 19 = .ok (.iastore, 1) := by decide +kernel
theorem dX10_add_20 : decode cX10_add 20 = .ok (.aload_n 0, 1) := by decide +kernel
theorem dX10_add_21 : decode cX10_add 21 = .ok (.getfield 16, 3) := by decide +kernel
theorem dX10_add_24 : decode cX10_add 24 = .ok (.aload_n 0, 1) := by decide +kernel
theorem dX10_add_25 : decode cX10_add 25 = .ok (.getfield 102, 3) := by decide +kernel
theorem dX10_add_28 : decode cX10_add 28 = .ok (.iload_n 3, 1) := by decide +kernel
theorem dX10_add_29 : decode cX10_add 29 = .ok (.iastore, 1) := by decide +kernel
theorem dX10_add_30 : decode cX10_add 30 = .ok (.aload_n 0, 1) := by decide +kernel
theorem dX10_add_31 : decode cX10_add 31 = .ok (.getfield 19, 3) := by decide +kernel
theorem dX10_add_34 : decode cX10_add 34 = .ok (.aload_n 0, 1) := by decide +kernel
theorem dX10_add_35 : decode cX10_add 35 = .ok (.getfield 102, 3) := by decide +kernel
theorem dX10_add_38 : decode cX10_add 38 = .ok (.iload 4, 2) := by decide +kernel
theorem dX10_add_40 : decode cX10_add 40 = .ok (.iastore, 1) := by decide +kernel
theorem dX10_add_41 : decode cX10_add 41 = .ok (.aload_n 0, 1) := by decide +kernel
theorem dX10_add_42 : decode cX10_add 42 = .ok (.getfield 22, 3) := by decide +kernel
theorem dX10_add_45 : decode cX10_add 45 = .ok (.aload_n 0, 1) := by decide +kernel
theorem dX10_add_46 : decode cX10_add 46 = .ok (.getfield 102, 3) := by decide +kernel
theorem dX10_add_49 : decode cX10_add 49 = .ok (.iload 5, 2) := by decide +kernel
theorem dX10_add_51 : decode cX10_add 51 = .ok (.iastore, 1) := by decide +kernel
theorem dX10_add_52 : decode cX10_add 52 = .ok (.aload_n 0, 1) := by decide +kernel
theorem dX10_add_53 : decode cX10_add 53 = .ok (.dup, 1) := by decide +kernel
theorem dX10_add_54 : decode cX10_add 54 = .ok (.getfield 102, 3) := by decide +kernel
theorem dX10_add_57 : decode cX10_add 57 = .ok (.iconst 1, 1) := by decide +kernel
theorem dX10_add_58 : decode cX10_add 58 = .ok (.iadd, 1) := by decide +kernel
theorem dX10_add_59 : decode cX10_add 59 = .ok (.putfield 102, 3) := by decide +kernel
theorem dX10_add_62 : decode cX10_add 62 = .ok (.aload_n 0, 1) := by decide +kernel
theorem dX10_add_63 : decode cX10_add 63 = .ok (.getfield 102, 3) := by decide +kernel
theorem dX10_add_66 : decode cX10_add 66 = .ok (.iconst 1, 1) := by decide +kernel
theorem dX10_add_67 : decode cX10_add 67 = .ok (.isub, 1) := by decide +kernel
theorem dX10_add_68 : decode cX10_add 68 = .ok (.ireturn, 1) := by decide +kernel
theorem dX10_coding_0 : decode cX10_coding 0 = .ok (.iload_n 1, 1) := by decide +kernel
theorem dX10_coding_1 : decode cX10_coding 1 = .ok (.iconst 1, 1) := by decide +kernel
theorem dX10_coding_2 : decode cX10_coding 2 = .ok (.if_icmp .lt 44, 3) := by decide +kernel
theorem dX10_coding_5 : decode cX10_coding 5 = .ok (.iload_n 1, 1) := by decide +kernel
theorem dX10_coding_6 : decode cX10_coding 6 = .ok (.iconst 5, 1) := by decide +kernel
theorem dX10_coding_7 : decode cX10_coding 7 = .ok (.if_icmp .gt 39, 3) := by decide +kernel
theorem dX10_coding_10 : decode cX10_coding 10 = .ok (.iload_n 2, 1) := by decide +kernel
theorem dX10_coding_11 : decode cX10_coding 11 = .ok (.iconst 1, 1) := by decide +kernel
theorem dX10_coding_12 : decode cX10_coding 12 = .ok (.if_icmp .lt 34, 3) := by decide +kernel
theorem dX10_coding_15 : decode cX10_coding 15 = .ok (.iload_n 2, 1) := by decide +kernel
theorem dX10_coding_16 : decode cX10_coding 16 = .ok (.sipush 256, 3) := by decide +kernel
theorem dX10_coding_19 : decode cX10_coding 19 = .ok (.if_icmp .gt 27, 3) := by decide +kernel
theorem dX10_coding_22 : decode cX10_coding 22 = .ok (.iload_n 3, 1) := by decide +kernel
theorem dX10_coding_23 : decode cX10_coding 23 = .ok (.ifCond .lt 23, 3) := by decide +kernel
theorem dX10_coding_26 : decode cX10_coding 26 = .ok (.iload_n 3, 1) := by decide +kernel
theorem dX10_coding_27 : decode cX10_coding 27 = .ok (.iconst 2, 1) := by decide +kernel
theorem dX10_coding_28 : decode cX10_coding 28 = .ok (.if_icmp .gt 18, 3) := by decide +kernel
theorem dX10_coding_31 : decode cX10_coding 31 = .ok (.iload 4, 2) := by decide +kernel
theorem dX10_coding_33 : decode cX10_coding 33 = .ok (.ifCond .lt 13, 3) := by decide +kernel
theorem dX10_coding_36 : decode cX10_coding 36 = .ok (.iload 4, 2) := by decide +kernel
theorem dX10_coding_38 : decode cX10_coding 38 = .ok (.iconst 1, 1) := by decide +kernel
theorem dX10_coding_39 : decode cX10_coding 39 = .ok (.if_icmp .gt 7, 3) := by decide +kernel
theorem dX10_coding_42 : decode cX10_coding 42 = .ok (.iconst 1, 1) := by decide +kernel
theorem dX10_coding_43 : decode cX10_coding 43 = .ok (.goto 4, 3) := by decide +kernel
theorem dX10_coding_46 : decode cX10_coding 46 = .ok (.iconst 0, 1) := by decide +kernel
theorem dX10_coding_47 : decode cX10_coding 47 = .ok (.istore 5, 2) := by decide +kernel
theorem dX10_coding_49 : decode cX10_coding 49 = .ok (.aload_n 0, 1) := by decide +kernel
theorem dX10_coding_50 : decode cX10_coding 50 = .ok (.iload 5, 2) := by decide +kernel
theorem dX10_coding_52 : decode cX10_coding 52 = .ok (.ifCond .ne 7, 3) := by decide +kernel
theorem dX10_coding_55 : decode cX10_coding 55 = .ok (.iconst 1, 1) := by decide +kernel
theorem dX10_coding_56 : decode cX10_coding 56 = .ok (.goto 17, 3) := by decide +kernel
theorem dX10_coding_59 : decode cX10_coding 59 = .ok (.aload_n 0, 1) := by decide +kernel
theorem dX10_coding_60 : decode cX10_coding 60 = .ok (.getfield 102, 3) := by decide +kernel
theorem dX10_coding_63 : decode cX10_coding 63 = .ok (.bipush 40, 2) := by decide +kernel
theorem dX10_coding_65 : decode cX10_coding 65 = .ok (.if_icmp .ne 7, 3) := by decide +kernel
theorem dX10_coding_68 : decode cX10_coding 68 = .ok (.iconst 2, 1) := by decide +kernel
theorem dX10_coding_69 : decode cX10_coding 69 = .ok (.goto 4, 3) := by decide +kernel
theorem dX10_coding_72 : decode cX10_coding 72 = .ok (.iconst 0, 1) := by decide +kernel
theorem dX10_coding_73 : decode cX10_coding 73 = .ok (.invokevirtual 105, 3) := by decide +kernel
theorem dX10_coding_76 : decode cX10_coding 76 = .ok (.ifCond .eq 5, 3) := by decide +kernel
theorem dX10_coding_79 : decode cX10_coding 79 = .ok (.iconst 0, 1) := by decide +kernel
theorem dX10_coding_80 : decode cX10_coding 80 = .ok (.ireturn, 1) := by decide +kernel
theorem dX10_coding_81 : decode cX10_coding 81 = .ok (.aload_n 0, 1) := by decide +kernel
theorem dX10_coding_82 : decode cX10_coding 82 = .ok (.getfield 25, 3) := by decide +kernel
theorem dX10_coding_85 : decode cX10_coding 85 = .ok (.aload_n 0, 1) := by decide +kernel
theorem dX10_coding_86 : decode cX10_coding 86 = .ok (.getfield 102, 3) := by decide +kernel
theorem dX10_coding_89 : decode cX10_coding 89 = .ok (.iconst 0, 1) := by decide +kernel
theorem dX10_coding_90 : decode cX10_coding 90 = .ok (.iastore, 1) := by decide +kernel
theorem dX10_coding_91 : decode cX10_coding 91 = .ok (.aload_n 0, 1) := by decide +kernel
theorem dX10_coding_92 : decode cX10_coding 92 = .ok (.iconst 0, 1) := by decide +kernel
theorem dX10_coding_93 : decode cX10_coding 93 = .ok (.iload_n 1, 1) := by decide +kernel
theorem dX10_coding_94 : decode cX10_coding 94 = .ok (.iload_n 2, 1) := by decide +kernel
theorem dX10_coding_95 : decode cX10_coding 95 = .ok (.iload_n 3, 1) := by decide +kernel
theorem dX10_coding_96 : decode cX10_coding 96 = .ok (.iload 4, 2) := by decide +kernel
theorem dX10_coding_98 : decode cX10_coding 98 = .ok (.invokevirtual 109, 3) := by decide +kernel
theorem dX10_coding_101 : decode cX10_coding 101 = .ok (.ireturn, 1) := by decide +kernel
theorem dX10_deep_0 : decode cX10_deep 0 = .ok (.aload_n 0, 1) := by decide +kernel
theorem dX10_deep_1 : decode cX10_deep 1 = .ok (.getfield 25, 3) := by decide +kernel
theorem dX10_deep_4 : decode cX10_deep 4 = .ok (.iload_n 1, 1) := by decide +kernel
theorem dX10_deep_5 : decode cX10_deep 5 = .ok (.iaload, 1) := by decide +kernel
theorem dX10_deep_6 : decode cX10_deep 6 = .ok (.aload_n 0, 1) := by decide +kernel
theorem dX10_deep_7 : decode cX10_deep 7 = .ok (.getfield 25, 3) := by decide +kernel
theorem dX10_deep_10 : decode cX10_deep 10 = .ok (.iload_n 2, 1) := by decide +kernel
theorem dX10_deep_11 : decode cX10_deep 11 = .ok (.iaload, 1) := by decide +kernel
theorem dX10_deep_12 : decode cX10_deep 12 = .ok (.if_icmp .le 12, 3) := by decide +kernel
theorem dX10_deep_15 : decode cX10_deep 15 = .ok (.aload_n 0, 1) := by decide +kernel
theorem dX10_deep_16 : decode cX10_deep 16 = .ok (.getfield 25, 3) := by decide +kernel
theorem dX10_deep_19 : decode cX10_deep 19 = .ok (.iload_n 1, 1) := by decide +kernel
theorem dX10_deep_20 : decode cX10_deep 20 = .ok (.iaload, 1) := by decide +kernel
theorem dX10_deep_21 : decode cX10_deep 21 = .ok (.goto 9, 3) := by decide +kernel
theorem dX10_deep_24 : decode cX10_deep 24 = .ok (.aload_n 0, 1) := by decide +kernel
theorem dX10_deep_25 : decode cX10_deep 25 = .ok (.getfield 25, 3) := by decide +kernel
theorem dX10_deep_28 : decode cX10_deep 28 = .ok (.iload_n 2, 1) := by decide +kernel
theorem dX10_deep_29 : decode cX10_deep 29 = .ok (.iaload, 1) := by decide +kernel
theorem dX10_deep_30 : decode cX10_deep 30 = .ok (.ireturn, 1) := by decide +kernel
theorem dX10_run_0 : decode cX10_run 0 = .ok (.aload_n 0, 1) := by decide +kernel
theorem dX10_run_1 : decode cX10_run 1 = .ok (.iload_n 1, 1) := by decide +kernel
theorem dX10_run_2 : decode cX10_run 2 = .ok (.ifCond .lt 26, 3) := by decide +kernel
theorem dX10_run_5 : decode cX10_run 5 = .ok (.iload_n 1, 1) := by decide +kernel
theorem dX10_run_6 : decode cX10_run 6 = .ok (.sipush 400, 3) := by decide +kernel
theorem dX10_run_9 : decode cX10_run 9 = .ok (.if_icmp .gt 19, 3) := by decide +kernel
theorem dX10_run_12 : decode cX10_run 12 = .ok (.aload_n 0, 1) := by decide +kernel
theorem dX10_run_13 : decode cX10_run 13 = .ok (.iload_n 2, 1) := by decide +kernel
theorem dX10_run_14 : decode cX10_run 14 = .ok (.invokevirtual 113, 3) := by decide +kernel
theorem dX10_run_17 : decode cX10_run 17 = .ok (.ifCond .eq 11, 3) := by decide +kernel
theorem dX10_run_20 : decode cX10_run 20 = .ok (.aload_n 0, 1) := by decide +kernel
theorem dX10_run_21 : decode cX10_run 21 = .ok (.iload_n 3, 1) := by decide +kernel
theorem dX10_run_22 : decode cX10_run 22 = .ok (.invokevirtual 113, 3) := by decide +kernel
theorem dX10_run_25 : decode cX10_run 25 = .ok (.ifCond .ne 7, 3) := by decide +kernel
theorem dX10_run_28 : decode cX10_run 28 = .ok (.iconst 1, 1) := by decide +kernel
theorem dX10_run_29 : decode cX10_run 29 = .ok (.goto 4, 3) := by decide +kernel
theorem dX10_run_32 : decode cX10_run 32 = .ok (.iconst 0, 1) := by decide +kernel
theorem dX10_run_33 : decode cX10_run 33 = .ok (.invokevirtual 105, 3) := by decide +kernel
theorem dX10_run_36 : decode cX10_run 36 = .ok (.ifCond .eq 5, 3) := by decide +kernel
theorem dX10_run_39 : decode cX10_run 39 = .ok (.iconst 0, 1) := by decide +kernel
theorem dX10_run_40 : decode cX10_run 40 = .ok (.ireturn, 1) := by decide +kernel
theorem dX10_run_41 : decode cX10_run 41 = .ok (.aload_n 0, 1) := by decide +kernel
theorem dX10_run_42 : decode cX10_run 42 = .ok (.aload_n 0, 1) := by decide +kernel
theorem dX10_run_43 : decode cX10_run 43 = .ok (.getfield 102, 3) := by decide +kernel
theorem dX10_run_46 : decode cX10_run 46 = .ok (.bipush 40, 2) := by decide +kernel
theorem dX10_run_48 : decode cX10_run 48 = .ok (.if_icmp .eq 13, 3) := by decide +kernel
theorem dX10_run_51 : decode cX10_run 51 = .ok (.aload_n 0, 1) := by decide +kernel
theorem dX10_run_52 : decode cX10_run 52 = .ok (.iload_n 2, 1) := by decide +kernel
theorem dX10_run_53 : decode cX10_run 53 = .ok (.iload_n 3, 1) := by decide +kernel
theorem dX10_run_54 : decode cX10_run 54 = .ok (.invokevirtual 116, 3) := by decide +kernel
theorem dX10_run_57 : decode cX10_run 57 = .ok (.iconst 4, 1) := by decide +kernel
theorem dX10_run_58 : decode cX10_run 58 = .ok (.if_icmp .ne 7, 3) := by decide +kernel
theorem dX10_run_61 : decode cX10_run 61 = .ok (.iconst 2, 1) := by decide +kernel
theorem dX10_run_62 : decode cX10_run 62 = .ok (.goto 4, 3) := by decide +kernel
theorem dX10_run_65 : decode cX10_run 65 = .ok (.iconst 0, 1) := by decide +kernel
theorem dX10_run_66 : decode cX10_run 66 = .ok (.invokevirtual 105, 3) := by decide +kernel
theorem dX10_run_69 : decode cX10_run 69 = .ok (.ifCond .eq 5, 3) := by decide +kernel
theorem dX10_run_72 : decode cX10_run 72 = .ok (.iconst 0, 1) := by decide +kernel
theorem dX10_run_73 : decode cX10_run 73 = .ok (.ireturn, 1) := by decide +kernel
theorem dX10_run_74 : decode cX10_run 74 = .ok (.aload_n 0, 1) := by decide +kernel
theorem dX10_run_75 : decode cX10_run 75 = .ok (.getfield 25, 3) := by decide +kernel
theorem dX10_run_78 : decode cX10_run 78 = .ok (.aload_n 0, 1) := by decide +kernel
theorem dX10_run_79 : decode cX10_run 79 = .ok (.getfield 102, 3) := by decide +kernel
theorem dX10_run_82 : decode cX10_run 82 = .ok (.iconst 1, 1) := by decide +kernel
theorem dX10_run_83 : decode cX10_run 83 = .ok (.aload_n 0, 1) := by decide +kernel
theorem dX10_run_84 : decode cX10_run 84 = .ok (.iload_n 2, 1) := by decide +kernel
theorem dX10_run_85 : decode cX10_run 85 = .ok (.iload_n 3, 1) := by decide +kernel
theorem dX10_run_86 : decode cX10_run 86 = .ok (.invokevirtual 116, 3) := by decide +kernel
theorem dX10_run_89 : decode cX10_run 89 = .ok (.iadd, 1) := by decide +kernel
theorem dX10_run_90 : decode cX10_run 90 = .ok (.iastore, 1) := by decide +kernel
theorem dX10_run_91 : decode cX10_run 91 = .ok (.aload_n 0, 1) := by decide +kernel
theorem dX10_run_92 : decode cX10_run 92 = .ok (.iconst 1, 1) := by decide +kernel
theorem dX10_run_93 : decode cX10_run 93 = .ok (.iload_n 1, 1) := by decide +kernel
theorem dX10_run_94 : decode cX10_run 94 = .ok (.iload_n 2, 1) := by decide +kernel
theorem dX10_run_95 : decode cX10_run 95 = .ok (.iload_n 3, 1) := by decide +kernel
theorem dX10_run_96 : decode cX10_run 96 = .ok (.iconst 0, 1) := by decide +kernel
theorem dX10_run_97 : decode cX10_run 97 = .ok (.invokevirtual 109, 3) := by decide +kernel
theorem dX10_run_100 : decode cX10_run 100 = .ok (.ireturn, 1) := by decide +kernel
theorem dX10_popular_0 : decode cX10_popular 0 = .ok (.aload_n 0, 1) := by decide +kernel
theorem dX10_popular_1 : decode cX10_popular 1 = .ok (.iload_n 1, 1) := by decide +kernel
theorem dX10_popular_2 : decode cX10_popular 2 = .ok (.iconst 1, 1) := by decide +kernel
theorem dX10_popular_3 : decode cX10_popular 3 = .ok (.if_icmp .lt 34, 3) := by decide +kernel
theorem dX10_popular_6 : decode cX10_popular 6 = .ok (.iload_n 1, 1) := by decide +kernel
theorem dX10_popular_7 : decode cX10_popular 7 = .ok (.bipush 50, 2) := by decide +kernel
theorem dX10_popular_9 : decode cX10_popular 9 = .ok (.if_icmp .gt 28, 3) := by decide +kernel
theorem dX10_popular_12 : decode cX10_popular 12 = .ok (.aload_n 0, 1) := by decide +kernel
theorem dX10_popular_13 : decode cX10_popular 13 = .ok (.iload_n 2, 1) := by decide +kernel
theorem dX10_popular_14 : decode cX10_popular 14 = .ok (.invokevirtual 113, 3) := by decide +kernel
theorem dX10_popular_17 : decode cX10_popular 17 = .ok (.ifCond .eq 20, 3) := by decide +kernel
theorem dX10_popular_20 : decode cX10_popular 20 = .ok (.aload_n 0, 1) := by decide +kernel
theorem dX10_popular_21 : decode cX10_popular 21 = .ok (.iload_n 3, 1) := by decide +kernel
theorem dX10_popular_22 : decode cX10_popular 22 = .ok (.invokevirtual 113, 3) := by decide +kernel
theorem dX10_popular_25 : decode cX10_popular 25 = .ok (.ifCond .eq 12, 3) := by decide +kernel
theorem dX10_popular_28 : decode cX10_popular 28 = .ok (.aload_n 0, 1) := by decide +kernel
theorem dX10_popular_29 : decode cX10_popular 29 = .ok (.iload 4, 2) := by decide +kernel
theorem dX10_popular_31 : decode cX10_popular 31 = .ok (.invokevirtual 113, 3) := by decide +kernel
theorem dX10_popular_34 : decode cX10_popular 34 = .ok (.ifCond .ne 7, 3) := by decide +kernel
theorem dX10_popular_37 : decode cX10_popular 37 = .ok (.iconst 1, 1) := by decide +kernel
theorem dX10_popular_38 : decode cX10_popular 38 = .ok (.goto 4, 3) := by decide +kernel
theorem dX10_popular_41 : decode cX10_popular 41 = .ok (.iconst 0, 1) := by decide +kernel
theorem dX10_popular_42 : decode cX10_popular 42 = .ok (.invokevirtual 105, 3) := by decide +kernel
theorem dX10_popular_45 : decode cX10_popular 45 = .ok (.ifCond .eq 5, 3) := by decide +kernel
theorem dX10_popular_48 : decode cX10_popular 48 = .ok (.iconst 0, 1) := by decide +kernel
theorem dX10_popular_49 : decode cX10_popular 49 = .ok (.ireturn, 1) := by decide +kernel
theorem dX10_popular_50 : decode cX10_popular 50 = .ok (.aload_n 0, 1) := by decide +kernel
theorem dX10_popular_51 : decode cX10_popular 51 = .ok (.iload_n 2, 1) := by decide +kernel
theorem dX10_popular_52 : decode cX10_popular 52 = .ok (.iload_n 3, 1) := by decide +kernel
theorem dX10_popular_53 : decode cX10_popular 53 = .ok (.invokevirtual 116, 3) := by decide +kernel
theorem dX10_popular_56 : decode cX10_popular 56 = .ok (.aload_n 0, 1) := by decide +kernel
theorem dX10_popular_57 : decode cX10_popular 57 = .ok (.getfield 25, 3) := by decide +kernel
theorem dX10_popular_60 : decode cX10_popular 60 = .ok (.iload 4, 2) := by decide +kernel
theorem dX10_popular_62 : decode cX10_popular 62 = .ok (.iaload, 1) := by decide +kernel
theorem dX10_popular_63 : decode cX10_popular 63 = .ok (.if_icmp .le 12, 3) := by decide +kernel
theorem dX10_popular_66 : decode cX10_popular 66 = .ok (.aload_n 0, 1) := by decide +kernel
theorem dX10_popular_67 : decode cX10_popular 67 = .ok (.iload_n 2, 1) := by decide +kernel
theorem dX10_popular_68 : decode cX10_popular 68 = .ok (.iload_n 3, 1) := by decide +kernel
theorem dX10_popular_69 : decode cX10_popular 69 = .ok (.invokevirtual 116, 3) := by decide +kernel
theorem dX10_popular_72 : decode cX10_popular 72 = .ok (.goto 10, 3) := by decide +kernel
theorem dX10_popular_75 : decode cX10_popular 75 = .ok (.aload_n 0, 1) := by decide +kernel
theorem dX10_popular_76 : decode cX10_popular 76 = .ok (.getfield 25, 3) := by decide +kernel
theorem dX10_popular_79 : decode cX10_popular 79 = .ok (.iload 4, 2) := by decide +kernel
theorem dX10_popular_81 : decode cX10_popular 81 = .ok (.iaload, 1) := by decide +kernel
theorem dX10_popular_82 : decode cX10_popular 82 = .ok (.istore 5, 2) := by decide +kernel
theorem dX10_popular_84 : decode cX10_popular 84 = .ok (.aload_n 0, 1) := by decide +kernel
theorem dX10_popular_85 : decode cX10_popular 85 = .ok (.aload_n 0, 1) := by decide +kernel
theorem dX10_popular_86 : decode cX10_popular 86 = .ok (.getfield 102, 3) := by decide +kernel
theorem dX10_popular_89 : decode cX10_popular 89 = .ok (.bipush 40, 2) := by decide +kernel
theorem dX10_popular_91 : decode cX10_popular 91 = .ok (.if_icmp .eq 9, 3) := by decide +kernel
theorem dX10_popular_94 : decode cX10_popular 94 = .ok (.iload 5, 2) := by decide +kernel
theorem dX10_popular_96 : decode cX10_popular 96 = .ok (.iconst 4, 1) := by decide +kernel
theorem dX10_popular_97 : decode cX10_popular 97 = .ok (.if_icmp .ne 7, 3) := by decide +kernel
theorem dX10_popular_100 : decode cX10_popular 100 = .ok (.iconst 2, 1) := by decide +kernel
theorem dX10_popular_101 : decode cX10_popular 101 = .ok (.goto 4, 3) := by decide +kernel
theorem dX10_popular_104 : decode cX10_popular 104 = .ok (.iconst 0, 1) := by decide +kernel
theorem dX10_popular_105 : decode cX10_popular 105 = .ok (.invokevirtual 105, 3) := by decide +kernel
theorem dX10_popular_108 : decode cX10_popular 108 = .ok (.ifCond .eq 5, 3) := by decide +kernel
theorem dX10_popular_111 : decode cX10_popular 111 = .ok (.iconst 0, 1) := by decide +kernel
theorem dX10_popular_112 : decode cX10_popular 112 = .ok (.ireturn, 1) := by decide +kernel
theorem dX10_popular_113 : decode cX10_popular 113 = .ok (.aload_n 0, 1) := by decide +kernel
theorem dX10_popular_114 : decode cX10_popular 114 = .ok (.getfield 25, 3) := by decide +kernel
theorem dX10_popular_117 : decode cX10_popular 117 = .ok (.aload_n 0, 1) := by decide +kernel
theorem dX10_popular_118 : decode cX10_popular 118 = .ok (.getfield 102, 3) := by decide +kernel
theorem dX10_popular_121 : decode cX10_popular 121 = .ok (.iconst 1, 1) := by decide +kernel
theorem dX10_popular_122 : decode cX10_popular 122 = .ok (.iload 5, 2) := by decide +kernel
theorem dX10_popular_124 : decode cX10_popular 124 = .ok (.iadd, 1) := by decide +kernel
theorem dX10_popular_125 : decode cX10_popular 125 = .ok (.iastore, 1) := by decide +kernel
theorem dX10_popular_126 : decode cX10_popular 126 = .ok (.aload_n 0, 1) := by decide +kernel
theorem dX10_popular_127 : decode cX10_popular 127 = .ok (.iconst 2, 1) := by decide +kernel
theorem dX10_popular_128 : decode cX10_popular 128 = .ok (.iload_n 1, 1) := by decide +kernel
theorem dX10_popular_129 : decode cX10_popular 129 = .ok (.iload_n 2, 1) := by decide +kernel
theorem dX10_popular_130 : decode cX10_popular 130 = .ok (.iload_n 3, 1) := by decide +kernel
theorem dX10_popular_131 : decode cX10_popular 131 = .ok (.iload 4, 2) := by decide +kernel
theorem dX10_popular_133 : decode cX10_popular 133 = .ok (.invokevirtual 109, 3) := by decide +kernel
theorem dX10_popular_136 : decode cX10_popular 136 = .ok (.ireturn, 1) := by decide +kernel
theorem dX10_number_0 : decode cX10_number 0 = .ok (.aload_n 0, 1) := by decide +kernel
theorem dX10_number_1 : decode cX10_number 1 = .ok (.aload_n 0, 1) := by decide +kernel
theorem dX10_number_2 : decode cX10_number 2 = .ok (.getfield 120, 3) := by decide +kernel
theorem dX10_number_5 : decode cX10_number 5 = .ok (.sipush 400, 3) := by decide +kernel
theorem dX10_number_8 : decode cX10_number 8 = .ok (.if_icmp .ne 7, 3) := by decide +kernel
theorem dX10_number_11 : decode cX10_number 11 = .ok (.iconst 1, 1) := by decide +kernel
theorem dX10_number_12 : decode cX10_number 12 = .ok (.goto 4, 3) := by decide +kernel
theorem dX10_number_15 : decode cX10_number 15 = .ok (.iconst 0, 1) := by decide +kernel
theorem dX10_number_16 : decode cX10_number 16 = .ok (.invokevirtual 105, 3) := by decide +kernel
theorem dX10_number_19 : decode cX10_number 19 = .ok (.ifCond .eq 5, 3) := by decide +kernel
theorem dX10_number_22 : decode cX10_number 22 = .ok (.iconst 0, 1) := by decide +kernel
theorem dX10_number_23 : decode cX10_number 23 = .ok (.ireturn, 1) := by decide +kernel
theorem dX10_number_24 : decode cX10_number 24 = .ok (.aload_n 0, 1) := by decide +kernel
theorem dX10_number_25 : decode cX10_number 25 = .ok (.getfield 28, 3) := by decide +kernel
theorem dX10_number_28 : decode cX10_number 28 = .ok (.aload_n 0, 1) := by decide +kernel
theorem dX10_number_29 : decode cX10_number 29 = .ok (.getfield 120, 3) := by decide +kernel
theorem dX10_number_32 : decode cX10_number 32 = .ok (.iload_n 1, 1) := by decide +kernel
theorem dX10_number_33 : decode cX10_number 33 = .ok (.iastore, 1) := by decide +kernel
theorem dX10_number_34 : decode cX10_number 34 = .ok (.aload_n 0, 1) := by decide +kernel
theorem dX10_number_35 : decode cX10_number 35 = .ok (.dup, 1) := by decide +kernel
theorem dX10_number_36 : decode cX10_number 36 = .ok (.getfield 120, 3) := by decide +kernel
theorem dX10_number_39 : decode cX10_number 39 = .ok (.iconst 1, 1) := by decide +kernel
theorem dX10_number_40 : decode cX10_number 40 = .ok (.iadd, 1) := by decide +kernel
theorem dX10_number_41 : decode cX10_number 41 = .ok (.putfield 120, 3) := by decide +kernel
theorem dX10_number_44 : decode cX10_number 44 = .ok (.aload_n 0, 1) := by decide +kernel
theorem dX10_number_45 : decode cX10_number 45 = .ok (.getfield 120, 3) := by decide +kernel
theorem dX10_number_48 : decode cX10_number 48 = .ok (.ireturn, 1) := by decide +kernel
theorem dX10_clear_0 : decode cX10_clear 0 = .ok (.aload_n 0, 1) := by decide +kernel
theorem dX10_clear_1 : decode cX10_clear 1 = .ok (.iconst 0, 1) := by decide +kernel
theorem dX10_clear_2 : decode cX10_clear 2 = .ok (.putfield 99, 3) := by decide +kernel
theorem dX10_clear_5 : decode cX10_clear 5 = .ok (.aload_n 0, 1) := by decide +kernel
theorem dX10_clear_6 : decode cX10_clear 6 = .ok (.getfield 120, 3) := by decide +kernel
theorem dX10_clear_9 : decode cX10_clear 9 = .ok (.istore_n 1, 1) := by decide +kernel
theorem dX10_clear_10 : decode cX10_clear 10 = .ok (.aload_n 0, 1) := by decide +kernel
theorem dX10_clear_11 : decode cX10_clear 11 = .ok (.iconst 0, 1) := by decide +kernel
theorem dX10_clear_12 : decode cX10_clear 12 = .ok (.putfield 120, 3) := by decide +kernel
theorem dX10_clear_15 : decode cX10_clear 15 = .ok (.iload_n 1, 1) := by decide +kernel
theorem dX10_clear_16 : decode cX10_clear 16 = .ok (.ireturn, 1) := by decide +kernel
