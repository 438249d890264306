theorem d_Shop_countOverdue_31 : decode prog_10_method_31_code 31 = .ok (.iinc 2 1, 3) := by decide +kernel
theorem d_Shop_countOverdue_34 : decode prog_10_method_31_code 34 = .ok (.goto (-30), 3) := by decide +kernel
theorem d_Shop_countOverdue_37 : decode prog_10_method_31_code 37 = .ok (.iload_n 1, 1) := by decide +kernel
theorem d_Shop_countOverdue_38 : decode prog_10_method_31_code 38 = .ok (.ireturn, 1) := by decide +kernel
theorem d_P_contradictions_0 : decode prog_1_method_40_code 0 = .ok (.aload_n 0, 1) := by decide +kernel
theorem d_P_contradictions_1 : decode prog_1_method_40_code 1 = .ok (.getfield 35, 3) := by decide +kernel
theorem d_P_contradictions_4 : decode prog_1_method_40_code 4 = .ok (.invokevirtual 281, 3) := by decide +kernel
theorem d_P_contradictions_7 : decode prog_1_method_40_code 7 = .ok (.aload_n 0, 1) := by decide +kernel
theorem d_P_contradictions_8 : decode prog_1_method_40_code 8 = .ok (.getfield 47, 3) := by decide +kernel
theorem d_P_contradictions_11 : decode prog_1_method_40_code 11 = .ok (.invokevirtual 284, 3) := by decide +kernel
theorem d_P_contradictions_14 : decode prog_1_method_40_code 14 = .ok (.isub, 1) := by decide +kernel
theorem d_P_contradictions_15 : decode prog_1_method_40_code 15 = .ok (.invokestatic 285, 3) := by decide +kernel
theorem d_P_contradictions_18 : decode prog_1_method_40_code 18 = .ok (.aload_n 0, 1) := by decide +kernel
theorem d_P_contradictions_19 : decode prog_1_method_40_code 19 = .ok (.getfield 47, 3) := by decide +kernel
theorem d_P_contradictions_22 : decode prog_1_method_40_code 22 = .ok (.getfield 275, 3) := by decide +kernel
theorem d_P_contradictions_25 : decode prog_1_method_40_code 25 = .ok (.aload_n 0, 1) := by decide +kernel
theorem d_P_contradictions_26 : decode prog_1_method_40_code 26 = .ok (.getfield 47, 3) := by decide +kernel
theorem d_P_contradictions_29 : decode prog_1_method_40_code 29 = .ok (.invokevirtual 290, 3) := by decide +kernel
theorem d_P_contradictions_32 : decode prog_1_method_40_code 32 = .ok (.isub, 1) := by decide +kernel
theorem d_P_contradictions_33 : decode prog_1_method_40_code 33 = .ok (.invokestatic 285, 3) := by decide +kernel
theorem d_P_contradictions_36 : decode prog_1_method_40_code 36 = .ok (.iadd, 1) := by decide +kernel
theorem d_P_contradictions_37 : decode prog_1_method_40_code 37 = .ok (.aload_n 0, 1) := by decide +kernel
theorem d_P_contradictions_38 : decode prog_1_method_40_code 38 = .ok (.getfield 47, 3) := by decide +kernel
theorem d_P_contradictions_41 : decode prog_1_method_40_code 41 = .ok (.invokevirtual 293, 3) := by decide +kernel
theorem d_P_contradictions_44 : decode prog_1_method_40_code 44 = .ok (.iadd, 1) := by decide +kernel
theorem d_P_contradictions_45 : decode prog_1_method_40_code 45 = .ok (.ireturn, 1) := by decide +kernel
theorem d_Shop_countWithState_0 : decode prog_10_method_30_code 0 = .ok (.iconst 0, 1) := by decide +kernel
theorem d_Shop_countWithState_1 : decode prog_10_method_30_code 1 = .ok (.istore_n 2, 1) := by decide +kernel
theorem d_Shop_countWithState_2 : decode prog_10_method_30_code 2 = .ok (.iconst 0, 1) := by decide +kernel
theorem d_Shop_countWithState_3 : decode prog_10_method_30_code 3 = .ok (.istore_n 3, 1) := by decide +kernel
theorem d_Shop_countWithState_4 : decode prog_10_method_30_code 4 = .ok (.iload_n 3, 1) := by decide +kernel
theorem d_Shop_countWithState_5 : decode prog_10_method_30_code 5 = .ok (.aload_n 0, 1) := by decide +kernel
theorem d_Shop_countWithState_6 : decode prog_10_method_30_code 6 = .ok (.getfield 28, 3) := by decide +kernel
theorem d_Shop_countWithState_9 : decode prog_10_method_30_code 9 = .ok (.if_icmp .ge 25, 3) := by decide +kernel
theorem d_Shop_countWithState_12 : decode prog_10_method_30_code 12 = .ok (.aload_n 0, 1) := by decide +kernel
theorem d_Shop_countWithState_13 : decode prog_10_method_30_code 13 = .ok (.getfield 24, 3) := by decide +kernel
theorem d_Shop_countWithState_16 : decode prog_10_method_30_code 16 = .ok (.iload_n 3, 1) := by decide +kernel
theorem d_Shop_countWithState_17 : decode prog_10_method_30_code 17 = .ok (.aaload, 1) := by decide +kernel
theorem d_Shop_countWithState_18 : decode prog_10_method_30_code 18 = .ok (.getfield 137, 3) := by decide +kernel
theorem d_Shop_countWithState_21 : decode prog_10_method_30_code 21 = .ok (.iload_n 1, 1) := by decide +kernel
theorem d_Shop_countWithState_22 : decode prog_10_method_30_code 22 = .ok (.if_icmp .ne 6, 3) := by decide +kernel
theorem d_Shop_countWithState_25 : decode prog_10_method_30_code 25 = .ok (.iinc 2 1, 3) := by decide +kernel
theorem d_Shop_countWithState_28 : decode prog_10_method_30_code 28 = .ok (.iinc 3 1, 3) := by decide +kernel
theorem d_Shop_countWithState_31 : decode prog_10_method_30_code 31 = .ok (.goto (-27), 3) := by decide +kernel
theorem d_Shop_countWithState_34 : decode prog_10_method_30_code 34 = .ok (.iload_n 2, 1) := by decide +kernel
theorem d_Shop_countWithState_35 : decode prog_10_method_30_code 35 = .ok (.ireturn, 1) := by decide +kernel
theorem d_P_countIn_0 : decode prog_1_method_35_code 0 = .ok (.iload_n 1, 1) := by decide +kernel
theorem d_P_countIn_1 : decode prog_1_method_35_code 1 = .ok (.ifCond .eq 29, 3) := by decide +kernel
theorem d_P_countIn_4 : decode prog_1_method_35_code 4 = .ok (.iload_n 1, 1) := by decide +kernel
theorem d_P_countIn_5 : decode prog_1_method_35_code 5 = .ok (.iconst 1, 1) := by decide +kernel
theorem d_P_countIn_6 : decode prog_1_method_35_code 6 = .ok (.if_icmp .eq 24, 3) := by decide +kernel
theorem d_P_countIn_9 : decode prog_1_method_35_code 9 = .ok (.iload_n 1, 1) := by decide +kernel
theorem d_P_countIn_10 : decode prog_1_method_35_code 10 = .ok (.iconst 2, 1) := by decide +kernel
theorem d_P_countIn_11 : decode prog_1_method_35_code 11 = .ok (.if_icmp .eq 19, 3) := by decide +kernel
theorem d_P_countIn_14 : decode prog_1_method_35_code 14 = .ok (.iload_n 1, 1) := by decide +kernel
theorem d_P_countIn_15 : decode prog_1_method_35_code 15 = .ok (.iconst 3, 1) := by decide +kernel
theorem d_P_countIn_16 : decode prog_1_method_35_code 16 = .ok (.if_icmp .eq 14, 3) := by decide +kernel
theorem d_P_countIn_19 : decode prog_1_method_35_code 19 = .ok (.new 122, 3) := by decide +kernel
theorem d_P_countIn_22 : decode prog_1_method_35_code 22 = .ok (.dup, 1) := by decide +kernel
theorem d_P_countIn_23 : decode prog_1_method_35_code 23 = .ok (.ldc_w 267, 3) := by decide +kernel
theorem d_P_countIn_26 : decode prog_1_method_35_code 26 = .ok (.invokespecial 126, 3) := by decide +kernel
theorem d_P_countIn_29 : decode prog_1_method_35_code 29 = .ok (.athrow, 1) := by decide +kernel
theorem d_P_countIn_30 : decode prog_1_method_35_code 30 = .ok (.aload_n 0, 1) := by decide +kernel
theorem d_P_countIn_31 : decode prog_1_method_35_code 31 = .ok (.getfield 47, 3) := by decide +kernel
theorem d_P_countIn_34 : decode prog_1_method_35_code 34 = .ok (.iload_n 1, 1) := by decide +kernel
theorem d_P_countIn_35 : decode prog_1_method_35_code 35 = .ok (.invokevirtual 269, 3) := by decide +kernel
theorem d_P_countIn_38 : decode prog_1_method_35_code 38 = .ok (.ireturn, 1) := by decide +kernel
theorem d_P_customerCount_0 : decode prog_1_method_12_code 0 = .ok (.aload_n 0, 1) := by decide +kernel
theorem d_P_customerCount_1 : decode prog_1_method_12_code 1 = .ok (.getfield 35, 3) := by decide +kernel
theorem d_P_customerCount_4 : decode prog_1_method_12_code 4 = .ok (.getfield 164, 3) := by decide +kernel
theorem d_P_customerCount_7 : decode prog_1_method_12_code 7 = .ok (.getfield 156, 3) := by decide +kernel
theorem d_P_customerCount_10 : decode prog_1_method_12_code 10 = .ok (.ireturn, 1) := by decide +kernel
theorem d_P_customerOf_0 : decode prog_1_method_19_code 0 = .ok (.aload_n 0, 1) := by decide +kernel
theorem d_P_customerOf_1 : decode prog_1_method_19_code 1 = .ok (.iload_n 1, 1) := by decide +kernel
theorem d_P_customerOf_2 : decode prog_1_method_19_code 2 = .ok (.invokevirtual 198, 3) := by decide +kernel
theorem d_P_customerOf_5 : decode prog_1_method_19_code 5 = .ok (.getfield 202, 3) := by decide +kernel
theorem d_P_customerOf_8 : decode prog_1_method_19_code 8 = .ok (.ireturn, 1) := by decide +kernel
theorem d_P_day_0 : decode prog_1_method_8_code 0 = .ok (.aload_n 0, 1) := by decide +kernel
theorem d_P_day_1 : decode prog_1_method_8_code 1 = .ok (.getfield 47, 3) := by decide +kernel
theorem d_P_day_4 : decode prog_1_method_8_code 4 = .ok (.getfield 146, 3) := by decide +kernel
theorem d_P_day_7 : decode prog_1_method_8_code 7 = .ok (.ireturn, 1) := by decide +kernel
theorem d_P_daysUntilDecided_0 : decode prog_1_method_41_code 0 = .ok (.aload_n 0, 1) := by decide +kernel
theorem d_P_daysUntilDecided_1 : decode prog_1_method_41_code 1 = .ok (.iload_n 1, 1) := by decide +kernel
theorem d_P_daysUntilDecided_2 : decode prog_1_method_41_code 2 = .ok (.invokevirtual 198, 3) := by decide +kernel
theorem d_P_daysUntilDecided_5 : decode prog_1_method_41_code 5 = .ok (.astore_n 2, 1) := by decide +kernel
theorem d_P_daysUntilDecided_6 : decode prog_1_method_41_code 6 = .ok (.aload_n 2, 1) := by decide +kernel
theorem d_P_daysUntilDecided_7 : decode prog_1_method_41_code 7 = .ok (.getfield 222, 3) := by decide +kernel
theorem d_P_daysUntilDecided_10 : decode prog_1_method_41_code 10 = .ok (.ifCond .ne 20, 3) := by decide +kernel
theorem d_P_daysUntilDecided_13 : decode prog_1_method_41_code 13 = .ok (.aload_n 2, 1) := by decide +kernel
theorem d_P_daysUntilDecided_14 : decode prog_1_method_41_code 14 = .ok (.getfield 219, 3) := by decide +kernel
theorem d_P_daysUntilDecided_17 : decode prog_1_method_41_code 17 = .ok (.iconst 1, 1) := by decide +kernel
theorem d_P_daysUntilDecided_18 : decode prog_1_method_41_code 18 = .ok (.iadd, 1) := by decide +kernel
theorem d_P_daysUntilDecided_19 : decode prog_1_method_41_code 19 = .ok (.aload_n 0, 1) := by decide +kernel
theorem d_P_daysUntilDecided_20 : decode prog_1_method_41_code 20 = .ok (.getfield 47, 3) := by decide +kernel
theorem d_P_daysUntilDecided_23 : decode prog_1_method_41_code 23 = .ok (.getfield 146, 3) := by decide +kernel
theorem d_P_daysUntilDecided_26 : decode prog_1_method_41_code 26 = .ok (.isub, 1) := by decide +kernel
theorem d_P_daysUntilDecided_27 : decode prog_1_method_41_code 27 = .ok (.goto 4, 3) := by decide +kernel
theorem d_P_daysUntilDecided_30 : decode prog_1_method_41_code 30 = .ok (.iconst 0, 1) := by decide +kernel
theorem d_P_daysUntilDecided_31 : decode prog_1_method_41_code 31 = .ok (.ireturn, 1) := by decide +kernel
theorem d_P_daysUntilRefunded_0 : decode prog_1_method_42_code 0 = .ok (.aload_n 0, 1) := by decide +kernel
theorem d_P_daysUntilRefunded_1 : decode prog_1_method_42_code 1 = .ok (.getfield 47, 3) := by decide +kernel
theorem d_P_daysUntilRefunded_4 : decode prog_1_method_42_code 4 = .ok (.iload_n 1, 1) := by decide +kernel
theorem d_P_daysUntilRefunded_5 : decode prog_1_method_42_code 5 = .ok (.invokevirtual 240, 3) := by decide +kernel
theorem d_P_daysUntilRefunded_8 : decode prog_1_method_42_code 8 = .ok (.invokestatic 178, 3) := by decide +kernel
theorem d_P_daysUntilRefunded_11 : decode prog_1_method_42_code 11 = .ok (.aload_n 0, 1) := by decide +kernel
theorem d_P_daysUntilRefunded_12 : decode prog_1_method_42_code 12 = .ok (.getfield 51, 3) := by decide +kernel
theorem d_P_daysUntilRefunded_15 : decode prog_1_method_42_code 15 = .ok (.aload_n 0, 1) := by decide +kernel
theorem d_P_daysUntilRefunded_16 : decode prog_1_method_42_code 16 = .ok (.getfield 47, 3) := by decide +kernel
theorem d_P_daysUntilRefunded_19 : decode prog_1_method_42_code 19 = .ok (.invokevirtual 296, 3) := by decide +kernel
theorem d_P_daysUntilRefunded_22 : decode prog_1_method_42_code 22 = .ok (.aload_n 0, 1) := by decide +kernel
theorem d_P_daysUntilRefunded_23 : decode prog_1_method_42_code 23 = .ok (.getfield 51, 3) := by decide +kernel
theorem d_P_daysUntilRefunded_26 : decode prog_1_method_42_code 26 = .ok (.iload_n 1, 1) := by decide +kernel
theorem d_P_daysUntilRefunded_27 : decode prog_1_method_42_code 27 = .ok (.invokevirtual 299, 3) := by decide +kernel
theorem d_P_daysUntilRefunded_30 : decode prog_1_method_42_code 30 = .ok (.astore_n 2, 1) := by decide +kernel
theorem d_P_daysUntilRefunded_31 : decode prog_1_method_42_code 31 = .ok (.iconst 0, 1) := by decide +kernel
theorem d_P_daysUntilRefunded_32 : decode prog_1_method_42_code 32 = .ok (.istore_n 3, 1) := by decide +kernel
theorem d_P_daysUntilRefunded_33 : decode prog_1_method_42_code 33 = .ok (.iload_n 3, 1) := by decide +kernel
theorem d_P_daysUntilRefunded_34 : decode prog_1_method_42_code 34 = .ok (.sipush 300, 3) := by decide +kernel
theorem d_P_daysUntilRefunded_37 : decode prog_1_method_42_code 37 = .ok (.if_icmp .gt 28, 3) := by decide +kernel
theorem d_P_daysUntilRefunded_40 : decode prog_1_method_42_code 40 = .ok (.aload_n 2, 1) := by decide +kernel
theorem d_P_daysUntilRefunded_41 : decode prog_1_method_42_code 41 = .ok (.getfield 222, 3) := by decide +kernel
theorem d_P_daysUntilRefunded_44 : decode prog_1_method_42_code 44 = .ok (.iconst 3, 1) := by decide +kernel
theorem d_P_daysUntilRefunded_45 : decode prog_1_method_42_code 45 = .ok (.if_icmp .ne 5, 3) := by decide +kernel
theorem d_P_daysUntilRefunded_48 : decode prog_1_method_42_code 48 = .ok (.iload_n 3, 1) := by decide +kernel
theorem d_P_daysUntilRefunded_49 : decode prog_1_method_42_code 49 = .ok (.ireturn, 1) := by decide +kernel
theorem d_P_daysUntilRefunded_50 : decode prog_1_method_42_code 50 = .ok (.aload_n 0, 1) := by decide +kernel
theorem d_P_daysUntilRefunded_51 : decode prog_1_method_42_code 51 = .ok (.getfield 51, 3) := by decide +kernel
theorem d_P_daysUntilRefunded_54 : decode prog_1_method_42_code 54 = .ok (.iconst 1, 1) := by decide +kernel
theorem d_P_daysUntilRefunded_55 : decode prog_1_method_42_code 55 = .ok (.invokevirtual 300, 3) := by decide +kernel
theorem d_P_daysUntilRefunded_58 : decode prog_1_method_42_code 58 = .ok (.pop, 1) := by decide +kernel
theorem d_P_daysUntilRefunded_59 : decode prog_1_method_42_code 59 = .ok (.iinc 3 1, 3) := by decide +kernel
theorem d_P_daysUntilRefunded_62 : decode prog_1_method_42_code 62 = .ok (.goto (-29), 3) := by decide +kernel
theorem d_P_daysUntilRefunded_65 : decode prog_1_method_42_code 65 = .ok (.iconst (-1), 1) := by decide +kernel
theorem d_P_daysUntilRefunded_66 : decode prog_1_method_42_code 66 = .ok (.ireturn, 1) := by decide +kernel
theorem d_P_decidedOn_0 : decode prog_1_method_26_code 0 = .ok (.aload_n 0, 1) := by decide +kernel
theorem d_P_decidedOn_1 : decode prog_1_method_26_code 1 = .ok (.iload_n 1, 1) := by decide +kernel
theorem d_P_decidedOn_2 : decode prog_1_method_26_code 2 = .ok (.invokevirtual 198, 3) := by decide +kernel
theorem d_P_decidedOn_5 : decode prog_1_method_26_code 5 = .ok (.astore_n 2, 1) := by decide +kernel
theorem d_P_decidedOn_6 : decode prog_1_method_26_code 6 = .ok (.aload_n 2, 1) := by decide +kernel
theorem d_P_decidedOn_7 : decode prog_1_method_26_code 7 = .ok (.getfield 222, 3) := by decide +kernel
theorem d_P_decidedOn_10 : decode prog_1_method_26_code 10 = .ok (.ifCond .ne 13, 3) := by decide +kernel
theorem d_P_decidedOn_13 : decode prog_1_method_26_code 13 = .ok (.new 225, 3) := by decide +kernel
theorem d_P_decidedOn_16 : decode prog_1_method_26_code 16 = .ok (.dup, 1) := by decide +kernel
theorem d_P_decidedOn_17 : decode prog_1_method_26_code 17 = .ok (.ldc 227, 2) := by decide +kernel
theorem d_P_decidedOn_19 : decode prog_1_method_26_code 19 = .ok (.invokespecial 229, 3) := by decide +kernel
theorem d_P_decidedOn_22 : decode prog_1_method_26_code 22 = .ok (.athrow, 1) := by decide +kernel
theorem d_P_decidedOn_23 : decode prog_1_method_26_code 23 = .ok (.aload_n 2, 1) := by decide +kernel
theorem d_P_decidedOn_24 : decode prog_1_method_26_code 24 = .ok (.getfield 230, 3) := by decide +kernel
theorem d_P_decidedOn_27 : decode prog_1_method_26_code 27 = .ok (.ireturn, 1) := by decide +kernel
theorem d_P_errorPosition_0 : decode prog_1_method_7_code 0 = .ok (.aload_n 0, 1) := by decide +kernel
theorem d_P_errorPosition_1 : decode prog_1_method_7_code 1 = .ok (.getfield 73, 3) := by decide +kernel
theorem d_P_errorPosition_4 : decode prog_1_method_7_code 4 = .ok (.ireturn, 1) := by decide +kernel
theorem d_P_eventCount_0 : decode prog_1_method_10_code 0 = .ok (.aload_n 0, 1) := by decide +kernel
theorem d_P_eventCount_1 : decode prog_1_method_10_code 1 = .ok (.getfield 35, 3) := by decide +kernel
theorem d_P_eventCount_4 : decode prog_1_method_10_code 4 = .ok (.getfield 152, 3) := by decide +kernel
theorem d_P_eventCount_7 : decode prog_1_method_10_code 7 = .ok (.getfield 156, 3) := by decide +kernel
theorem d_P_eventCount_10 : decode prog_1_method_10_code 10 = .ok (.ireturn, 1) := by decide +kernel
theorem d_P_eventOf_0 : decode prog_1_method_20_code 0 = .ok (.aload_n 0, 1) := by decide +kernel
theorem d_P_eventOf_1 : decode prog_1_method_20_code 1 = .ok (.iload_n 1, 1) := by decide +kernel
theorem d_P_eventOf_2 : decode prog_1_method_20_code 2 = .ok (.invokevirtual 198, 3) := by decide +kernel
theorem d_P_eventOf_5 : decode prog_1_method_20_code 5 = .ok (.getfield 207, 3) := by decide +kernel
theorem d_P_eventOf_8 : decode prog_1_method_20_code 8 = .ok (.ireturn, 1) := by decide +kernel
theorem d_P_expectedAnswer_0 : decode prog_1_method_31_code 0 = .ok (.aload_n 0, 1) := by decide +kernel
theorem d_P_expectedAnswer_1 : decode prog_1_method_31_code 1 = .ok (.getfield 47, 3) := by decide +kernel
theorem d_P_expectedAnswer_4 : decode prog_1_method_31_code 4 = .ok (.aload_n 0, 1) := by decide +kernel
theorem d_P_expectedAnswer_5 : decode prog_1_method_31_code 5 = .ok (.iload_n 1, 1) := by decide +kernel
theorem d_P_expectedAnswer_6 : decode prog_1_method_31_code 6 = .ok (.invokevirtual 198, 3) := by decide +kernel
theorem d_P_expectedAnswer_9 : decode prog_1_method_31_code 9 = .ok (.invokevirtual 249, 3) := by decide +kernel
theorem d_P_expectedAnswer_12 : decode prog_1_method_31_code 12 = .ok (.ireturn, 1) := by decide +kernel
theorem d_P_firstDay_0 : decode prog_1_method_23_code 0 = .ok (.aload_n 0, 1) := by decide +kernel
theorem d_P_firstDay_1 : decode prog_1_method_23_code 1 = .ok (.iload_n 1, 1) := by decide +kernel
theorem d_P_firstDay_2 : decode prog_1_method_23_code 2 = .ok (.invokevirtual 198, 3) := by decide +kernel
theorem d_P_firstDay_5 : decode prog_1_method_23_code 5 = .ok (.getfield 216, 3) := by decide +kernel
theorem d_P_firstDay_8 : decode prog_1_method_23_code 8 = .ok (.ireturn, 1) := by decide +kernel
theorem d_P_handledRequests_0 : decode prog_1_method_36_code 0 = .ok (.aload_n 0, 1) := by decide +kernel
theorem d_P_handledRequests_1 : decode prog_1_method_36_code 1 = .ok (.getfield 47, 3) := by decide +kernel
theorem d_P_handledRequests_4 : decode prog_1_method_36_code 4 = .ok (.getfield 272, 3) := by decide +kernel
theorem d_P_handledRequests_7 : decode prog_1_method_36_code 7 = .ok (.ireturn, 1) := by decide +kernel
theorem d_Shop_isNoted_0 : decode prog_10_method_10_code 0 = .ok (.iconst 0, 1) := by decide +kernel
theorem d_Shop_isNoted_1 : decode prog_10_method_10_code 1 = .ok (.istore 4, 2) := by decide +kernel
theorem d_Shop_isNoted_3 : decode prog_10_method_10_code 3 = .ok (.iload 4, 2) := by decide +kernel
theorem d_Shop_isNoted_5 : decode prog_10_method_10_code 5 = .ok (.aload_n 0, 1) := by decide +kernel
theorem d_Shop_isNoted_6 : decode prog_10_method_10_code 6 = .ok (.getfield 52, 3) := by decide +kernel
theorem d_Shop_isNoted_9 : decode prog_10_method_10_code 9 = .ok (.if_icmp .ge 44, 3) := by decide +kernel
theorem d_Shop_isNoted_12 : decode prog_10_method_10_code 12 = .ok (.aload_n 0, 1) := by decide +kernel
theorem d_Shop_isNoted_13 : decode prog_10_method_10_code 13 = .ok (.getfield 43, 3) := by decide +kernel
theorem d_Shop_isNoted_16 : decode prog_10_method_10_code 16 = .ok (.iload 4, 2) := by decide +kernel
theorem d_Shop_isNoted_18 : decode prog_10_method_10_code 18 = .ok (.iaload, 1) := by decide +kernel
theorem d_Shop_isNoted_19 : decode prog_10_method_10_code 19 = .ok (.iload_n 1, 1) := by decide +kernel
theorem d_Shop_isNoted_20 : decode prog_10_method_10_code 20 = .ok (.if_icmp .ne 27, 3) := by decide +kernel
theorem d_Shop_isNoted_23 : decode prog_10_method_10_code 23 = .ok (.aload_n 0, 1) := by decide +kernel
theorem d_Shop_isNoted_24 : decode prog_10_method_10_code 24 = .ok (.getfield 46, 3) := by decide +kernel
theorem d_Shop_isNoted_27 : decode prog_10_method_10_code 27 = .ok (.iload 4, 2) := by decide +kernel
theorem d_Shop_isNoted_29 : decode prog_10_method_10_code 29 = .ok (.iaload, 1) := by decide +kernel
theorem d_Shop_isNoted_30 : decode prog_10_method_10_code 30 = .ok (.iload_n 2, 1) := by decide +kernel
theorem d_Shop_isNoted_31 : decode prog_10_method_10_code 31 = .ok (.if_icmp .ne 16, 3) := by decide +kernel
theorem d_Shop_isNoted_34 : decode prog_10_method_10_code 34 = .ok (.aload_n 0, 1) := by decide +kernel
theorem d_Shop_isNoted_35 : decode prog_10_method_10_code 35 = .ok (.getfield 49, 3) := by decide +kernel
theorem d_Shop_isNoted_38 : decode prog_10_method_10_code 38 = .ok (.iload 4, 2) := by decide +kernel
theorem d_Shop_isNoted_40 : decode prog_10_method_10_code 40 = .ok (.iaload, 1) := by decide +kernel
theorem d_Shop_isNoted_41 : decode prog_10_method_10_code 41 = .ok (.iload_n 3, 1) := by decide +kernel
theorem d_Shop_isNoted_42 : decode prog_10_method_10_code 42 = .ok (.if_icmp .ne 5, 3) := by decide +kernel
theorem d_Shop_isNoted_45 : decode prog_10_method_10_code 45 = .ok (.iconst 1, 1) := by decide +kernel
theorem d_Shop_isNoted_46 : decode prog_10_method_10_code 46 = .ok (.ireturn, 1) := by decide +kernel
theorem d_Shop_isNoted_47 : decode prog_10_method_10_code 47 = .ok (.iinc 4 1, 3) := by decide +kernel
theorem d_Shop_isNoted_50 : decode prog_10_method_10_code 50 = .ok (.goto (-47), 3) := by decide +kernel
theorem d_Shop_isNoted_53 : decode prog_10_method_10_code 53 = .ok (.iconst 0, 1) := by decide +kernel
theorem d_Shop_isNoted_54 : decode prog_10_method_10_code 54 = .ok (.ireturn, 1) := by decide +kernel
theorem d_Shop_faultOfHappening_0 : decode prog_10_method_13_code 0 = .ok (.aload_n 0, 1) := by decide +kernel
theorem d_Shop_faultOfHappening_1 : decode prog_10_method_13_code 1 = .ok (.getfield 61, 3) := by decide +kernel
theorem d_Shop_faultOfHappening_4 : decode prog_10_method_13_code 4 = .ok (.getfield 106, 3) := by decide +kernel
theorem d_Shop_faultOfHappening_7 : decode prog_10_method_13_code 7 = .ok (.iload_n 1, 1) := by decide +kernel
theorem d_Shop_faultOfHappening_8 : decode prog_10_method_13_code 8 = .ok (.invokevirtual 98, 3) := by decide +kernel
theorem d_Shop_faultOfHappening_11 : decode prog_10_method_13_code 11 = .ok (.ifCond .eq 17, 3) := by decide +kernel
theorem d_Shop_faultOfHappening_14 : decode prog_10_method_13_code 14 = .ok (.aload_n 0, 1) := by decide +kernel
theorem d_Shop_faultOfHappening_15 : decode prog_10_method_13_code 15 = .ok (.getfield 61, 3) := by decide +kernel
theorem d_Shop_faultOfHappening_18 : decode prog_10_method_13_code 18 = .ok (.getfield 94, 3) := by decide +kernel
theorem d_Shop_faultOfHappening_21 : decode prog_10_method_13_code 21 = .ok (.iload_n 2, 1) := by decide +kernel
theorem d_Shop_faultOfHappening_22 : decode prog_10_method_13_code 22 = .ok (.invokevirtual 98, 3) := by decide +kernel
theorem d_Shop_faultOfHappening_25 : decode prog_10_method_13_code 25 = .ok (.ifCond .ne 5, 3) := by decide +kernel
theorem d_Shop_faultOfHappening_28 : decode prog_10_method_13_code 28 = .ok (.iconst 1, 1) := by decide +kernel
theorem d_Shop_faultOfHappening_29 : decode prog_10_method_13_code 29 = .ok (.ireturn, 1) := by decide +kernel
theorem d_Shop_faultOfHappening_30 : decode prog_10_method_13_code 30 = .ok (.aload_n 0, 1) := by decide +kernel
theorem d_Shop_faultOfHappening_31 : decode prog_10_method_13_code 31 = .ok (.getfield 52, 3) := by decide +kernel
theorem d_Shop_faultOfHappening_34 : decode prog_10_method_13_code 34 = .ok (.bipush 60, 2) := by decide +kernel
theorem d_Shop_faultOfHappening_36 : decode prog_10_method_13_code 36 = .ok (.if_icmp .ge 16, 3) := by decide +kernel
theorem d_Shop_faultOfHappening_39 : decode prog_10_method_13_code 39 = .ok (.aload_n 0, 1) := by decide +kernel
theorem d_Shop_faultOfHappening_40 : decode prog_10_method_13_code 40 = .ok (.iload_n 1, 1) := by decide +kernel
theorem d_Shop_faultOfHappening_41 : decode prog_10_method_13_code 41 = .ok (.iload_n 2, 1) := by decide +kernel
theorem d_Shop_faultOfHappening_42 : decode prog_10_method_13_code 42 = .ok (.aload_n 0, 1) := by decide +kernel
theorem d_Shop_faultOfHappening_43 : decode prog_10_method_13_code 43 = .ok (.getfield 9, 3) := by decide +kernel
theorem d_Shop_faultOfHappening_46 : decode prog_10_method_13_code 46 = .ok (.invokevirtual 151, 3) := by decide +kernel
theorem d_Shop_faultOfHappening_49 : decode prog_10_method_13_code 49 = .ok (.ifCond .eq 7, 3) := by decide +kernel
theorem d_Shop_faultOfHappening_52 : decode prog_10_method_13_code 52 = .ok (.iconst 3, 1) := by decide +kernel
theorem d_Shop_faultOfHappening_53 : decode prog_10_method_13_code 53 = .ok (.goto 4, 3) := by decide +kernel
theorem d_Shop_faultOfHappening_56 : decode prog_10_method_13_code 56 = .ok (.iconst 0, 1) := by decide +kernel
theorem d_Shop_faultOfHappening_57 : decode prog_10_method_13_code 57 = .ok (.ireturn, 1) := by decide +kernel
theorem d_Prophecy_isAbout_0 : decode prog_5_method_3_code 0 = .ok (.aload_n 0, 1) := by decide +kernel
theorem d_Prophecy_isAbout_1 : decode prog_5_method_3_code 1 = .ok (.getfield 18, 3) := by decide +kernel
theorem d_Prophecy_isAbout_4 : decode prog_5_method_3_code 4 = .ok (.iload_n 1, 1) := by decide +kernel
theorem d_Prophecy_isAbout_5 : decode prog_5_method_3_code 5 = .ok (.if_icmp .ne 23, 3) := by decide +kernel
theorem d_Prophecy_isAbout_8 : decode prog_5_method_3_code 8 = .ok (.aload_n 0, 1) := by decide +kernel
theorem d_Prophecy_isAbout_9 : decode prog_5_method_3_code 9 = .ok (.getfield 15, 3) := by decide +kernel
theorem d_Prophecy_isAbout_12 : decode prog_5_method_3_code 12 = .ok (.iconst 1, 1) := by decide +kernel
theorem d_Prophecy_isAbout_13 : decode prog_5_method_3_code 13 = .ok (.if_icmp .eq 11, 3) := by decide +kernel
theorem d_Prophecy_isAbout_16 : decode prog_5_method_3_code 16 = .ok (.aload_n 0, 1) := by decide +kernel
theorem d_Prophecy_isAbout_17 : decode prog_5_method_3_code 17 = .ok (.getfield 21, 3) := by decide +kernel
theorem d_Prophecy_isAbout_20 : decode prog_5_method_3_code 20 = .ok (.iload_n 2, 1) := by decide +kernel
theorem d_Prophecy_isAbout_21 : decode prog_5_method_3_code 21 = .ok (.if_icmp .ne 7, 3) := by decide +kernel
theorem d_Prophecy_isAbout_24 : decode prog_5_method_3_code 24 = .ok (.iconst 1, 1) := by decide +kernel
theorem d_Prophecy_isAbout_25 : decode prog_5_method_3_code 25 = .ok (.goto 4, 3) := by decide +kernel
theorem d_Prophecy_isAbout_28 : decode prog_5_method_3_code 28 = .ok (.iconst 0, 1) := by decide +kernel
theorem d_Prophecy_isAbout_29 : decode prog_5_method_3_code 29 = .ok (.ireturn, 1) := by decide +kernel
theorem d_Shop_noteHappening_0 : decode prog_10_method_14_code 0 = .ok (.aload_n 0, 1) := by decide +kernel
theorem d_Shop_noteHappening_1 : decode prog_10_method_14_code 1 = .ok (.getfield 52, 3) := by decide +kernel
theorem d_Shop_noteHappening_4 : decode prog_10_method_14_code 4 = .ok (.bipush 60, 2) := by decide +kernel
theorem d_Shop_noteHappening_6 : decode prog_10_method_14_code 6 = .ok (.if_icmp .ge 46, 3) := by decide +kernel
theorem d_Shop_noteHappening_9 : decode prog_10_method_14_code 9 = .ok (.aload_n 0, 1) := by decide +kernel
theorem d_Shop_noteHappening_10 : decode prog_10_method_14_code 10 = .ok (.getfield 43, 3) := by decide +kernel
theorem d_Shop_noteHappening_13 : decode prog_10_method_14_code 13 = .ok (.aload_n 0, 1) := by decide +kernel
theorem d_Shop_noteHappening_14 : decode prog_10_method_14_code 14 = .ok (.getfield 52, 3) := by decide +kernel
theorem d_Shop_noteHappening_17 : decode prog_10_method_14_code 17 = .ok (.iload_n 1, 1) := by decide +kernel
theorem d_Shop_noteHappening_18 : decode prog_10_method_14_code 18 = .ok (.iastore, 1) := by decide +kernel
theorem d_Shop_noteHappening_19 : decode prog_10_method_14_code 19 = .ok (.aload_n 0, 1) := by decide +kernel
theorem d_Shop_noteHappening_20 : decode prog_10_method_14_code 20 = .ok (.getfield 46, 3) := by decide +kernel
theorem d_Shop_noteHappening_23 : decode prog_10_method_14_code 23 = .ok (.aload_n 0, 1) := by decide +kernel
theorem d_Shop_noteHappening_24 : decode prog_10_method_14_code 24 = .ok (.getfield 52, 3) := by decide +kernel
theorem d_Shop_noteHappening_27 : decode prog_10_method_14_code 27 = .ok (.iload_n 2, 1) := by decide +kernel
theorem d_Shop_noteHappening_28 : decode prog_10_method_14_code 28 = .ok (.iastore, 1) := by decide +kernel
theorem d_Shop_noteHappening_29 : decode prog_10_method_14_code 29 = .ok (.aload_n 0, 1) := by decide +kernel
theorem d_Shop_noteHappening_30 : decode prog_10_method_14_code 30 = .ok (.getfield 49, 3) := by decide +kernel
theorem d_Shop_noteHappening_33 : decode prog_10_method_14_code 33 = .ok (.aload_n 0, 1) := by decide +kernel
theorem d_Shop_noteHappening_34 : decode prog_10_method_14_code 34 = .ok (.getfield 52, 3) := by decide +kernel
theorem d_Shop_noteHappening_37 : decode prog_10_method_14_code 37 = .ok (.aload_n 0, 1) := by decide +kernel
theorem d_Shop_noteHappening_38 : decode prog_10_method_14_code 38 = .ok (.getfield 9, 3) := by decide +kernel
theorem d_Shop_noteHappening_41 : decode prog_10_method_14_code 41 = .ok (.iastore, 1) := by decide +kernel
theorem d_Shop_noteHappening_42 : decode prog_10_method_14_code 42 = .ok (.aload_n 0, 1) := by decide +kernel
theorem d_Shop_noteHappening_43 : decode prog_10_method_14_code 43 = .ok (.dup, 1) := by decide +kernel
theorem d_Shop_noteHappening_44 : decode prog_10_method_14_code 44 = .ok (.getfield 52, 3) := by decide +kernel
theorem d_Shop_noteHappening_47 : decode prog_10_method_14_code 47 = .ok (.iconst 1, 1) := by decide +kernel
theorem d_Shop_noteHappening_48 : decode prog_10_method_14_code 48 = .ok (.iadd, 1) := by decide +kernel
theorem d_Shop_noteHappening_49 : decode prog_10_method_14_code 49 = .ok (.putfield 52, 3) := by decide +kernel
theorem d_Shop_noteHappening_52 : decode prog_10_method_14_code 52 = .ok (.iconst 0, 1) := by decide +kernel
theorem d_Shop_noteHappening_53 : decode prog_10_method_14_code 53 = .ok (.istore_n 3, 1) := by decide +kernel
theorem d_Shop_noteHappening_54 : decode prog_10_method_14_code 54 = .ok (.iconst 0, 1) := by decide +kernel
theorem d_Shop_noteHappening_55 : decode prog_10_method_14_code 55 = .ok (.istore 4, 2) := by decide +kernel
theorem d_Shop_noteHappening_57 : decode prog_10_method_14_code 57 = .ok (.iload 4, 2) := by decide +kernel
theorem d_Shop_noteHappening_59 : decode prog_10_method_14_code 59 = .ok (.aload_n 0, 1) := by decide +kernel
theorem d_Shop_noteHappening_60 : decode prog_10_method_14_code 60 = .ok (.getfield 28, 3) := by decide +kernel
theorem d_Shop_noteHappening_63 : decode prog_10_method_14_code 63 = .ok (.if_icmp .ge 72, 3) := by decide +kernel
theorem d_Shop_noteHappening_66 : decode prog_10_method_14_code 66 = .ok (.aload_n 0, 1) := by decide +kernel
theorem d_Shop_noteHappening_67 : decode prog_10_method_14_code 67 = .ok (.getfield 24, 3) := by decide +kernel
theorem d_Shop_noteHappening_70 : decode prog_10_method_14_code 70 = .ok (.iload 4, 2) := by decide +kernel
theorem d_Shop_noteHappening_72 : decode prog_10_method_14_code 72 = .ok (.aaload, 1) := by decide +kernel
theorem d_Shop_noteHappening_73 : decode prog_10_method_14_code 73 = .ok (.getfield 137, 3) := by decide +kernel
theorem d_Shop_noteHappening_76 : decode prog_10_method_14_code 76 = .ok (.ifCond .ne 53, 3) := by decide +kernel
theorem d_Shop_noteHappening_79 : decode prog_10_method_14_code 79 = .ok (.aload_n 0, 1) := by decide +kernel
theorem d_Shop_noteHappening_80 : decode prog_10_method_14_code 80 = .ok (.getfield 24, 3) := by decide +kernel
theorem d_Shop_noteHappening_83 : decode prog_10_method_14_code 83 = .ok (.iload 4, 2) := by decide +kernel
theorem d_Shop_noteHappening_85 : decode prog_10_method_14_code 85 = .ok (.aaload, 1) := by decide +kernel
theorem d_Shop_noteHappening_86 : decode prog_10_method_14_code 86 = .ok (.getfield 128, 3) := by decide +kernel
theorem d_Shop_noteHappening_89 : decode prog_10_method_14_code 89 = .ok (.aload_n 0, 1) := by decide +kernel
theorem d_Shop_noteHappening_90 : decode prog_10_method_14_code 90 = .ok (.getfield 9, 3) := by decide +kernel
theorem d_Shop_noteHappening_93 : decode prog_10_method_14_code 93 = .ok (.if_icmp .gt 36, 3) := by decide +kernel
theorem d_Shop_noteHappening_96 : decode prog_10_method_14_code 96 = .ok (.aload_n 0, 1) := by decide +kernel
theorem d_Shop_noteHappening_97 : decode prog_10_method_14_code 97 = .ok (.getfield 24, 3) := by decide +kernel
theorem d_Shop_noteHappening_100 : decode prog_10_method_14_code 100 = .ok (.iload 4, 2) := by decide +kernel
theorem d_Shop_noteHappening_102 : decode prog_10_method_14_code 102 = .ok (.aaload, 1) := by decide +kernel
theorem d_Shop_noteHappening_103 : decode prog_10_method_14_code 103 = .ok (.iload_n 1, 1) := by decide +kernel
theorem d_Shop_noteHappening_104 : decode prog_10_method_14_code 104 = .ok (.iload_n 2, 1) := by decide +kernel
theorem d_Shop_noteHappening_105 : decode prog_10_method_14_code 105 = .ok (.invokevirtual 154, 3) := by decide +kernel
theorem d_Shop_noteHappening_108 : decode prog_10_method_14_code 108 = .ok (.ifCond .eq 21, 3) := by decide +kernel
theorem d_Shop_noteHappening_111 : decode prog_10_method_14_code 111 = .ok (.aload_n 0, 1) := by decide +kernel
theorem d_Shop_noteHappening_112 : decode prog_10_method_14_code 112 = .ok (.getfield 24, 3) := by decide +kernel
theorem d_Shop_noteHappening_115 : decode prog_10_method_14_code 115 = .ok (.iload 4, 2) := by decide +kernel
theorem d_Shop_noteHappening_117 : decode prog_10_method_14_code 117 = .ok (.aaload, 1) := by decide +kernel
theorem d_Shop_noteHappening_118 : decode prog_10_method_14_code 118 = .ok (.iconst 1, 1) := by decide +kernel
theorem d_Shop_noteHappening_119 : decode prog_10_method_14_code 119 = .ok (.aload_n 0, 1) := by decide +kernel
theorem d_Shop_noteHappening_120 : decode prog_10_method_14_code 120 = .ok (.getfield 9, 3) := by decide +kernel
theorem d_Shop_noteHappening_123 : decode prog_10_method_14_code 123 = .ok (.invokevirtual 158, 3) := by decide +kernel
theorem d_Shop_noteHappening_126 : decode prog_10_method_14_code 126 = .ok (.iinc 3 1, 3) := by decide +kernel
theorem d_Shop_noteHappening_129 : decode prog_10_method_14_code 129 = .ok (.iinc 4 1, 3) := by decide +kernel
theorem d_Shop_noteHappening_132 : decode prog_10_method_14_code 132 = .ok (.goto (-75), 3) := by decide +kernel
theorem d_Shop_noteHappening_135 : decode prog_10_method_14_code 135 = .ok (.iload_n 3, 1) := by decide +kernel
theorem d_Shop_noteHappening_136 : decode prog_10_method_14_code 136 = .ok (.ireturn, 1) := by decide +kernel
theorem d_P_happen_0 : decode prog_1_method_47_code 0 = .ok (.aload_n 0, 1) := by decide +kernel
theorem d_P_happen_1 : decode prog_1_method_47_code 1 = .ok (.getfield 47, 3) := by decide +kernel
theorem d_P_happen_4 : decode prog_1_method_47_code 4 = .ok (.iload_n 1, 1) := by decide +kernel
theorem d_P_happen_5 : decode prog_1_method_47_code 5 = .ok (.iload_n 2, 1) := by decide +kernel
theorem d_P_happen_6 : decode prog_1_method_47_code 6 = .ok (.invokevirtual 309, 3) := by decide +kernel
theorem d_P_happen_9 : decode prog_1_method_47_code 9 = .ok (.invokestatic 312, 3) := by decide +kernel
theorem d_P_happen_12 : decode prog_1_method_47_code 12 = .ok (.aload_n 0, 1) := by decide +kernel
theorem d_P_happen_13 : decode prog_1_method_47_code 13 = .ok (.getfield 57, 3) := by decide +kernel
theorem d_P_happen_16 : decode prog_1_method_47_code 16 = .ok (.aload_n 0, 1) := by decide +kernel
theorem d_P_happen_17 : decode prog_1_method_47_code 17 = .ok (.getfield 47, 3) := by decide +kernel
theorem d_P_happen_20 : decode prog_1_method_47_code 20 = .ok (.invokevirtual 138, 3) := by decide +kernel
theorem d_P_happen_23 : decode prog_1_method_47_code 23 = .ok (.aload_n 0, 1) := by decide +kernel
theorem d_P_happen_24 : decode prog_1_method_47_code 24 = .ok (.getfield 47, 3) := by decide +kernel
theorem d_P_happen_27 : decode prog_1_method_47_code 27 = .ok (.iload_n 1, 1) := by decide +kernel
theorem d_P_happen_28 : decode prog_1_method_47_code 28 = .ok (.iload_n 2, 1) := by decide +kernel
theorem d_P_happen_29 : decode prog_1_method_47_code 29 = .ok (.invokevirtual 315, 3) := by decide +kernel
theorem d_P_happen_32 : decode prog_1_method_47_code 32 = .ok (.ireturn, 1) := by decide +kernel
theorem d_P_hasHappened_0 : decode prog_1_method_16_code 0 = .ok (.aload_n 0, 1) := by decide +kernel
theorem d_P_hasHappened_1 : decode prog_1_method_16_code 1 = .ok (.getfield 35, 3) := by decide +kernel
theorem d_P_hasHappened_4 : decode prog_1_method_16_code 4 = .ok (.getfield 152, 3) := by decide +kernel
theorem d_P_hasHappened_7 : decode prog_1_method_16_code 7 = .ok (.iload_n 1, 1) := by decide +kernel
theorem d_P_hasHappened_8 : decode prog_1_method_16_code 8 = .ok (.invokevirtual 174, 3) := by decide +kernel
theorem d_P_hasHappened_11 : decode prog_1_method_16_code 11 = .ok (.ifCond .eq 21, 3) := by decide +kernel
theorem d_P_hasHappened_14 : decode prog_1_method_16_code 14 = .ok (.aload_n 0, 1) := by decide +kernel
theorem d_P_hasHappened_15 : decode prog_1_method_16_code 15 = .ok (.getfield 35, 3) := by decide +kernel
theorem d_P_hasHappened_18 : decode prog_1_method_16_code 18 = .ok (.getfield 161, 3) := by decide +kernel
theorem d_P_hasHappened_21 : decode prog_1_method_16_code 21 = .ok (.iload_n 2, 1) := by decide +kernel
theorem d_P_hasHappened_22 : decode prog_1_method_16_code 22 = .ok (.invokevirtual 174, 3) := by decide +kernel
theorem d_P_hasHappened_25 : decode prog_1_method_16_code 25 = .ok (.ifCond .eq 7, 3) := by decide +kernel
theorem d_P_hasHappened_28 : decode prog_1_method_16_code 28 = .ok (.iconst 1, 1) := by decide +kernel
theorem d_P_hasHappened_29 : decode prog_1_method_16_code 29 = .ok (.goto 4, 3) := by decide +kernel
theorem d_P_hasHappened_32 : decode prog_1_method_16_code 32 = .ok (.iconst 0, 1) := by decide +kernel
theorem d_P_hasHappened_33 : decode prog_1_method_16_code 33 = .ok (.invokestatic 178, 3) := by decide +kernel
theorem d_P_hasHappened_36 : decode prog_1_method_16_code 36 = .ok (.aload_n 0, 1) := by decide +kernel
theorem d_P_hasHappened_37 : decode prog_1_method_16_code 37 = .ok (.getfield 47, 3) := by decide +kernel
theorem d_P_hasHappened_40 : decode prog_1_method_16_code 40 = .ok (.iload_n 1, 1) := by decide +kernel
theorem d_P_hasHappened_41 : decode prog_1_method_16_code 41 = .ok (.iload_n 2, 1) := by decide +kernel
theorem d_P_hasHappened_42 : decode prog_1_method_16_code 42 = .ok (.iload_n 3, 1) := by decide +kernel
theorem d_P_hasHappened_43 : decode prog_1_method_16_code 43 = .ok (.invokevirtual 189, 3) := by decide +kernel
theorem d_P_hasHappened_46 : decode prog_1_method_16_code 46 = .ok (.ireturn, 1) := by decide +kernel
theorem d_P_idleOwls_0 : decode prog_1_method_32_code 0 = .ok (.iconst 0, 1) := by decide +kernel
theorem d_P_idleOwls_1 : decode prog_1_method_32_code 1 = .ok (.istore_n 1, 1) := by decide +kernel
theorem d_P_idleOwls_2 : decode prog_1_method_32_code 2 = .ok (.iconst 0, 1) := by decide +kernel
theorem d_P_idleOwls_3 : decode prog_1_method_32_code 3 = .ok (.istore_n 2, 1) := by decide +kernel
theorem d_P_idleOwls_4 : decode prog_1_method_32_code 4 = .ok (.iload_n 2, 1) := by decide +kernel
theorem d_P_idleOwls_5 : decode prog_1_method_32_code 5 = .ok (.aload_n 0, 1) := by decide +kernel
theorem d_P_idleOwls_6 : decode prog_1_method_32_code 6 = .ok (.getfield 35, 3) := by decide +kernel
theorem d_P_idleOwls_9 : decode prog_1_method_32_code 9 = .ok (.getfield 252, 3) := by decide +kernel
theorem d_P_idleOwls_12 : decode prog_1_method_32_code 12 = .ok (.if_icmp .ge 26, 3) := by decide +kernel
theorem d_P_idleOwls_15 : decode prog_1_method_32_code 15 = .ok (.aload_n 0, 1) := by decide +kernel
theorem d_P_idleOwls_16 : decode prog_1_method_32_code 16 = .ok (.getfield 47, 3) := by decide +kernel
theorem d_P_idleOwls_19 : decode prog_1_method_32_code 19 = .ok (.iload_n 2, 1) := by decide +kernel
theorem d_P_idleOwls_20 : decode prog_1_method_32_code 20 = .ok (.invokevirtual 255, 3) := by decide +kernel
theorem d_P_idleOwls_23 : decode prog_1_method_32_code 23 = .ok (.getfield 259, 3) := by decide +kernel
theorem d_P_idleOwls_26 : decode prog_1_method_32_code 26 = .ok (.ifCond .ne 6, 3) := by decide +kernel
theorem d_P_idleOwls_29 : decode prog_1_method_32_code 29 = .ok (.iinc 1 1, 3) := by decide +kernel
theorem d_P_idleOwls_32 : decode prog_1_method_32_code 32 = .ok (.iinc 2 1, 3) := by decide +kernel
theorem d_P_idleOwls_35 : decode prog_1_method_32_code 35 = .ok (.goto (-31), 3) := by decide +kernel
theorem d_P_idleOwls_38 : decode prog_1_method_32_code 38 = .ok (.iload_n 1, 1) := by decide +kernel
theorem d_P_idleOwls_39 : decode prog_1_method_32_code 39 = .ok (.ireturn, 1) := by decide +kernel
theorem d_P_isDenial_0 : decode prog_1_method_22_code 0 = .ok (.aload_n 0, 1) := by decide +kernel
theorem d_P_isDenial_1 : decode prog_1_method_22_code 1 = .ok (.iload_n 1, 1) := by decide +kernel
theorem d_P_isDenial_2 : decode prog_1_method_22_code 2 = .ok (.invokevirtual 198, 3) := by decide +kernel
theorem d_P_isDenial_5 : decode prog_1_method_22_code 5 = .ok (.getfield 213, 3) := by decide +kernel
theorem d_P_isDenial_8 : decode prog_1_method_22_code 8 = .ok (.iconst 2, 1) := by decide +kernel
theorem d_P_isDenial_9 : decode prog_1_method_22_code 9 = .ok (.if_icmp .ne 7, 3) := by decide +kernel
theorem d_P_isDenial_12 : decode prog_1_method_22_code 12 = .ok (.iconst 1, 1) := by decide +kernel
theorem d_P_isDenial_13 : decode prog_1_method_22_code 13 = .ok (.goto 4, 3) := by decide +kernel
theorem d_P_isDenial_16 : decode prog_1_method_22_code 16 = .ok (.iconst 0, 1) := by decide +kernel
theorem d_P_isDenial_17 : decode prog_1_method_22_code 17 = .ok (.ireturn, 1) := by decide +kernel
theorem d_P_lastDay_0 : decode prog_1_method_24_code 0 = .ok (.aload_n 0, 1) := by decide +kernel
theorem d_P_lastDay_1 : decode prog_1_method_24_code 1 = .ok (.iload_n 1, 1) := by decide +kernel
theorem d_P_lastDay_2 : decode prog_1_method_24_code 2 = .ok (.invokevirtual 198, 3) := by decide +kernel
theorem d_P_lastDay_5 : decode prog_1_method_24_code 5 = .ok (.getfield 219, 3) := by decide +kernel
theorem d_P_lastDay_8 : decode prog_1_method_24_code 8 = .ok (.ireturn, 1) := by decide +kernel
theorem d_Shop_countHappenings_0 : decode prog_10_method_11_code 0 = .ok (.iconst 0, 1) := by decide +kernel
theorem d_Shop_countHappenings_1 : decode prog_10_method_11_code 1 = .ok (.istore_n 3, 1) := by decide +kernel
theorem d_Shop_countHappenings_2 : decode prog_10_method_11_code 2 = .ok (.iconst 0, 1) := by decide +kernel
theorem d_Shop_countHappenings_3 : decode prog_10_method_11_code 3 = .ok (.istore 4, 2) := by decide +kernel
theorem d_Shop_countHappenings_5 : decode prog_10_method_11_code 5 = .ok (.iload 4, 2) := by decide +kernel
theorem d_Shop_countHappenings_7 : decode prog_10_method_11_code 7 = .ok (.aload_n 0, 1) := by decide +kernel
theorem d_Shop_countHappenings_8 : decode prog_10_method_11_code 8 = .ok (.getfield 52, 3) := by decide +kernel
theorem d_Shop_countHappenings_11 : decode prog_10_method_11_code 11 = .ok (.if_icmp .ge 34, 3) := by decide +kernel
theorem d_Shop_countHappenings_14 : decode prog_10_method_11_code 14 = .ok (.aload_n 0, 1) := by decide +kernel
theorem d_Shop_countHappenings_15 : decode prog_10_method_11_code 15 = .ok (.getfield 43, 3) := by decide +kernel
theorem d_Shop_countHappenings_18 : decode prog_10_method_11_code 18 = .ok (.iload 4, 2) := by decide +kernel
theorem d_Shop_countHappenings_20 : decode prog_10_method_11_code 20 = .ok (.iaload, 1) := by decide +kernel
theorem d_Shop_countHappenings_21 : decode prog_10_method_11_code 21 = .ok (.iload_n 1, 1) := by decide +kernel
theorem d_Shop_countHappenings_22 : decode prog_10_method_11_code 22 = .ok (.if_icmp .ne 17, 3) := by decide +kernel
theorem d_Shop_countHappenings_25 : decode prog_10_method_11_code 25 = .ok (.aload_n 0, 1) := by decide +kernel
theorem d_Shop_countHappenings_26 : decode prog_10_method_11_code 26 = .ok (.getfield 46, 3) := by decide +kernel
theorem d_Shop_countHappenings_29 : decode prog_10_method_11_code 29 = .ok (.iload 4, 2) := by decide +kernel
theorem d_Shop_countHappenings_31 : decode prog_10_method_11_code 31 = .ok (.iaload, 1) := by decide +kernel
theorem d_Shop_countHappenings_32 : decode prog_10_method_11_code 32 = .ok (.iload_n 2, 1) := by decide +kernel
theorem d_Shop_countHappenings_33 : decode prog_10_method_11_code 33 = .ok (.if_icmp .ne 6, 3) := by decide +kernel
theorem d_Shop_countHappenings_36 : decode prog_10_method_11_code 36 = .ok (.iinc 3 1, 3) := by decide +kernel
theorem d_Shop_countHappenings_39 : decode prog_10_method_11_code 39 = .ok (.iinc 4 1, 3) := by decide +kernel
theorem d_Shop_countHappenings_42 : decode prog_10_method_11_code 42 = .ok (.goto (-37), 3) := by decide +kernel
theorem d_Shop_countHappenings_45 : decode prog_10_method_11_code 45 = .ok (.iload_n 3, 1) := by decide +kernel
theorem d_Shop_countHappenings_46 : decode prog_10_method_11_code 46 = .ok (.ireturn, 1) := by decide +kernel
theorem d_Shop_countHappeningsIn_0 : decode prog_10_method_12_code 0 = .ok (.iconst 0, 1) := by decide +kernel
theorem d_Shop_countHappeningsIn_1 : decode prog_10_method_12_code 1 = .ok (.istore_n 2, 1) := by decide +kernel
theorem d_Shop_countHappeningsIn_2 : decode prog_10_method_12_code 2 = .ok (.iconst 0, 1) := by decide +kernel
theorem d_Shop_countHappeningsIn_3 : decode prog_10_method_12_code 3 = .ok (.istore_n 3, 1) := by decide +kernel
theorem d_Shop_countHappeningsIn_4 : decode prog_10_method_12_code 4 = .ok (.iload_n 3, 1) := by decide +kernel
theorem d_Shop_countHappeningsIn_5 : decode prog_10_method_12_code 5 = .ok (.bipush 6, 2) := by decide +kernel
theorem d_Shop_countHappeningsIn_7 : decode prog_10_method_12_code 7 = .ok (.if_icmp .ge 18, 3) := by decide +kernel
theorem d_Shop_countHappeningsIn_10 : decode prog_10_method_12_code 10 = .ok (.iload_n 2, 1) := by decide +kernel
theorem d_Shop_countHappeningsIn_11 : decode prog_10_method_12_code 11 = .ok (.aload_n 0, 1) := by decide +kernel
theorem d_Shop_countHappeningsIn_12 : decode prog_10_method_12_code 12 = .ok (.iload_n 3, 1) := by decide +kernel
theorem d_Shop_countHappeningsIn_13 : decode prog_10_method_12_code 13 = .ok (.iload_n 1, 1) := by decide +kernel
theorem d_Shop_countHappeningsIn_14 : decode prog_10_method_12_code 14 = .ok (.invokevirtual 147, 3) := by decide +kernel
theorem d_Shop_countHappeningsIn_17 : decode prog_10_method_12_code 17 = .ok (.iadd, 1) := by decide +kernel
theorem d_Shop_countHappeningsIn_18 : decode prog_10_method_12_code 18 = .ok (.istore_n 2, 1) := by decide +kernel
theorem d_Shop_countHappeningsIn_19 : decode prog_10_method_12_code 19 = .ok (.iinc 3 1, 3) := by decide +kernel
theorem d_Shop_countHappeningsIn_22 : decode prog_10_method_12_code 22 = .ok (.goto (-18), 3) := by decide +kernel
theorem d_Shop_countHappeningsIn_25 : decode prog_10_method_12_code 25 = .ok (.iload_n 2, 1) := by decide +kernel
theorem d_Shop_countHappeningsIn_26 : decode prog_10_method_12_code 26 = .ok (.ireturn, 1) := by decide +kernel
theorem d_P_liveliestPlace_0 : decode prog_1_method_17_code 0 = .ok (.iconst 0, 1) := by decide +kernel
theorem d_P_liveliestPlace_1 : decode prog_1_method_17_code 1 = .ok (.istore_n 1, 1) := by decide +kernel
theorem d_P_liveliestPlace_2 : decode prog_1_method_17_code 2 = .ok (.aload_n 0, 1) := by decide +kernel
theorem d_P_liveliestPlace_3 : decode prog_1_method_17_code 3 = .ok (.getfield 47, 3) := by decide +kernel
theorem d_P_liveliestPlace_6 : decode prog_1_method_17_code 6 = .ok (.iconst 0, 1) := by decide +kernel
theorem d_P_liveliestPlace_7 : decode prog_1_method_17_code 7 = .ok (.invokevirtual 192, 3) := by decide +kernel
theorem d_P_liveliestPlace_10 : decode prog_1_method_17_code 10 = .ok (.istore_n 2, 1) := by decide +kernel
theorem d_P_liveliestPlace_11 : decode prog_1_method_17_code 11 = .ok (.iconst 1, 1) := by decide +kernel
theorem d_P_liveliestPlace_12 : decode prog_1_method_17_code 12 = .ok (.istore_n 3, 1) := by decide +kernel
theorem d_P_liveliestPlace_13 : decode prog_1_method_17_code 13 = .ok (.iload_n 3, 1) := by decide +kernel
theorem d_P_liveliestPlace_14 : decode prog_1_method_17_code 14 = .ok (.aload_n 0, 1) := by decide +kernel
theorem d_P_liveliestPlace_15 : decode prog_1_method_17_code 15 = .ok (.getfield 35, 3) := by decide +kernel
theorem d_P_liveliestPlace_18 : decode prog_1_method_17_code 18 = .ok (.getfield 161, 3) := by decide +kernel
theorem d_P_liveliestPlace_21 : decode prog_1_method_17_code 21 = .ok (.getfield 156, 3) := by decide +kernel
theorem d_P_liveliestPlace_24 : decode prog_1_method_17_code 24 = .ok (.if_icmp .ge 30, 3) := by decide +kernel
theorem d_P_liveliestPlace_27 : decode prog_1_method_17_code 27 = .ok (.aload_n 0, 1) := by decide +kernel
theorem d_P_liveliestPlace_28 : decode prog_1_method_17_code 28 = .ok (.getfield 47, 3) := by decide +kernel
theorem d_P_liveliestPlace_31 : decode prog_1_method_17_code 31 = .ok (.iload_n 3, 1) := by decide +kernel
theorem d_P_liveliestPlace_32 : decode prog_1_method_17_code 32 = .ok (.invokevirtual 192, 3) := by decide +kernel
theorem d_P_liveliestPlace_35 : decode prog_1_method_17_code 35 = .ok (.istore 4, 2) := by decide +kernel
theorem d_P_liveliestPlace_37 : decode prog_1_method_17_code 37 = .ok (.iload 4, 2) := by decide +kernel
theorem d_P_liveliestPlace_39 : decode prog_1_method_17_code 39 = .ok (.iload_n 2, 1) := by decide +kernel
theorem d_P_liveliestPlace_40 : decode prog_1_method_17_code 40 = .ok (.if_icmp .le 8, 3) := by decide +kernel
theorem d_P_liveliestPlace_43 : decode prog_1_method_17_code 43 = .ok (.iload 4, 2) := by decide +kernel
theorem d_P_liveliestPlace_45 : decode prog_1_method_17_code 45 = .ok (.istore_n 2, 1) := by decide +kernel
theorem d_P_liveliestPlace_46 : decode prog_1_method_17_code 46 = .ok (.iload_n 3, 1) := by decide +kernel
theorem d_P_liveliestPlace_47 : decode prog_1_method_17_code 47 = .ok (.istore_n 1, 1) := by decide +kernel
theorem d_P_liveliestPlace_48 : decode prog_1_method_17_code 48 = .ok (.iinc 3 1, 3) := by decide +kernel
theorem d_P_liveliestPlace_51 : decode prog_1_method_17_code 51 = .ok (.goto (-38), 3) := by decide +kernel
theorem d_P_liveliestPlace_54 : decode prog_1_method_17_code 54 = .ok (.iload_n 1, 1) := by decide +kernel
theorem d_P_liveliestPlace_55 : decode prog_1_method_17_code 55 = .ok (.ireturn, 1) := by decide +kernel
theorem d_Setup_clear_0 : decode prog_8_method_2_code 0 = .ok (.aload_n 0, 1) := by decide +kernel
theorem d_Setup_clear_1 : decode prog_8_method_2_code 1 = .ok (.getfield 30, 3) := by decide +kernel
theorem d_Setup_clear_4 : decode prog_8_method_2_code 4 = .ok (.iconst 0, 1) := by decide +kernel
theorem d_Setup_clear_5 : decode prog_8_method_2_code 5 = .ok (.putfield 53, 3) := by decide +kernel
theorem d_Setup_clear_8 : decode prog_8_method_2_code 8 = .ok (.aload_n 0, 1) := by decide +kernel
theorem d_Setup_clear_9 : decode prog_8_method_2_code 9 = .ok (.getfield 34, 3) := by decide +kernel
theorem d_Setup_clear_12 : decode prog_8_method_2_code 12 = .ok (.iconst 0, 1) := by decide +kernel
theorem d_Setup_clear_13 : decode prog_8_method_2_code 13 = .ok (.putfield 53, 3) := by decide +kernel
theorem d_Setup_clear_16 : decode prog_8_method_2_code 16 = .ok (.aload_n 0, 1) := by decide +kernel
theorem d_Setup_clear_17 : decode prog_8_method_2_code 17 = .ok (.getfield 37, 3) := by decide +kernel
theorem d_Setup_clear_20 : decode prog_8_method_2_code 20 = .ok (.iconst 0, 1) := by decide +kernel
theorem d_Setup_clear_21 : decode prog_8_method_2_code 21 = .ok (.putfield 53, 3) := by decide +kernel
theorem d_Setup_clear_24 : decode prog_8_method_2_code 24 = .ok (.aload_n 0, 1) := by decide +kernel
theorem d_Setup_clear_25 : decode prog_8_method_2_code 25 = .ok (.iconst 0, 1) := by decide +kernel
theorem d_Setup_clear_26 : decode prog_8_method_2_code 26 = .ok (.putfield 50, 3) := by decide +kernel
theorem d_Setup_clear_29 : decode prog_8_method_2_code 29 = .ok (.return_, 1) := by decide +kernel
theorem d_Reader_isBlank_0 : decode prog_6_method_4_code 0 = .ok (.iload_n 0, 1) := by decide +kernel
theorem d_Reader_isBlank_1 : decode prog_6_method_4_code 1 = .ok (.bipush 32, 2) := by decide +kernel
theorem d_Reader_isBlank_3 : decode prog_6_method_4_code 3 = .ok (.if_icmp .eq 9, 3) := by decide +kernel
theorem d_Reader_isBlank_6 : decode prog_6_method_4_code 6 = .ok (.iload_n 0, 1) := by decide +kernel
theorem d_Reader_isBlank_7 : decode prog_6_method_4_code 7 = .ok (.bipush 10, 2) := by decide +kernel
theorem d_Reader_isBlank_9 : decode prog_6_method_4_code 9 = .ok (.if_icmp .ne 7, 3) := by decide +kernel
theorem d_Reader_isBlank_12 : decode prog_6_method_4_code 12 = .ok (.iconst 1, 1) := by decide +kernel
theorem d_Reader_isBlank_13 : decode prog_6_method_4_code 13 = .ok (.goto 4, 3) := by decide +kernel
theorem d_Reader_isBlank_16 : decode prog_6_method_4_code 16 = .ok (.iconst 0, 1) := by decide +kernel
theorem d_Reader_isBlank_17 : decode prog_6_method_4_code 17 = .ok (.ireturn, 1) := by decide +kernel
theorem d_Reader_kindOf_0 : decode prog_6_method_5_code 0 = .ok (.iload_n 0, 1) := by decide +kernel
theorem d_Reader_kindOf_1 : decode prog_6_method_5_code 1 = .ok (.iconst (-1), 1) := by decide +kernel
theorem d_Reader_kindOf_2 : decode prog_6_method_5_code 2 = .ok (.if_icmp .ne 5, 3) := by decide +kernel
theorem d_Reader_kindOf_5 : decode prog_6_method_5_code 5 = .ok (.iconst 0, 1) := by decide +kernel
theorem d_Reader_kindOf_6 : decode prog_6_method_5_code 6 = .ok (.ireturn, 1) := by decide +kernel
theorem d_Reader_kindOf_7 : decode prog_6_method_5_code 7 = .ok (.iload_n 0, 1) := by decide +kernel
theorem d_Reader_kindOf_8 : decode prog_6_method_5_code 8 = .ok (.bipush 97, 2) := by decide +kernel
theorem d_Reader_kindOf_10 : decode prog_6_method_5_code 10 = .ok (.if_icmp .lt 11, 3) := by decide +kernel
theorem d_Reader_kindOf_13 : decode prog_6_method_5_code 13 = .ok (.iload_n 0, 1) := by decide +kernel
theorem d_Reader_kindOf_14 : decode prog_6_method_5_code 14 = .ok (.bipush 122, 2) := by decide +kernel
theorem d_Reader_kindOf_16 : decode prog_6_method_5_code 16 = .ok (.if_icmp .gt 5, 3) := by decide +kernel
theorem d_Reader_kindOf_19 : decode prog_6_method_5_code 19 = .ok (.iconst 1, 1) := by decide +kernel
theorem d_Reader_kindOf_20 : decode prog_6_method_5_code 20 = .ok (.ireturn, 1) := by decide +kernel
theorem d_Reader_kindOf_21 : decode prog_6_method_5_code 21 = .ok (.iload_n 0, 1) := by decide +kernel
theorem d_Reader_kindOf_22 : decode prog_6_method_5_code 22 = .ok (.bipush 48, 2) := by decide +kernel
theorem d_Reader_kindOf_24 : decode prog_6_method_5_code 24 = .ok (.if_icmp .lt 11, 3) := by decide +kernel
theorem d_Reader_kindOf_27 : decode prog_6_method_5_code 27 = .ok (.iload_n 0, 1) := by decide +kernel
theorem d_Reader_kindOf_28 : decode prog_6_method_5_code 28 = .ok (.bipush 57, 2) := by decide +kernel
theorem d_Reader_kindOf_30 : decode prog_6_method_5_code 30 = .ok (.if_icmp .gt 5, 3) := by decide +kernel
theorem d_Reader_kindOf_33 : decode prog_6_method_5_code 33 = .ok (.iconst 2, 1) := by decide +kernel
theorem d_Reader_kindOf_34 : decode prog_6_method_5_code 34 = .ok (.ireturn, 1) := by decide +kernel
theorem d_Reader_kindOf_35 : decode prog_6_method_5_code 35 = .ok (.iload_n 0, 1) := by decide +kernel
theorem d_Reader_kindOf_36 : decode prog_6_method_5_code 36 = .ok (.bipush 59, 2) := by decide +kernel
theorem d_Reader_kindOf_38 : decode prog_6_method_5_code 38 = .ok (.if_icmp .eq 15, 3) := by decide +kernel
theorem d_Reader_kindOf_41 : decode prog_6_method_5_code 41 = .ok (.iload_n 0, 1) := by decide +kernel
theorem d_Reader_kindOf_42 : decode prog_6_method_5_code 42 = .ok (.bipush 40, 2) := by decide +kernel
theorem d_Reader_kindOf_44 : decode prog_6_method_5_code 44 = .ok (.if_icmp .eq 9, 3) := by decide +kernel
theorem d_Reader_kindOf_47 : decode prog_6_method_5_code 47 = .ok (.iload_n 0, 1) := by decide +kernel
theorem d_Reader_kindOf_48 : decode prog_6_method_5_code 48 = .ok (.bipush 41, 2) := by decide +kernel
theorem d_Reader_kindOf_50 : decode prog_6_method_5_code 50 = .ok (.if_icmp .ne 7, 3) := by decide +kernel
theorem d_Reader_kindOf_53 : decode prog_6_method_5_code 53 = .ok (.iload_n 0, 1) := by decide +kernel
theorem d_Reader_kindOf_54 : decode prog_6_method_5_code 54 = .ok (.goto 4, 3) := by decide +kernel
theorem d_Reader_kindOf_57 : decode prog_6_method_5_code 57 = .ok (.iconst 3, 1) := by decide +kernel
theorem d_Reader_kindOf_58 : decode prog_6_method_5_code 58 = .ok (.ireturn, 1) := by decide +kernel
theorem d_Reader_next_0 : decode prog_6_method_6_code 0 = .ok (.aload_n 0, 1) := by decide +kernel
theorem d_Reader_next_1 : decode prog_6_method_6_code 1 = .ok (.aload_n 0, 1) := by decide +kernel
theorem d_Reader_next_2 : decode prog_6_method_6_code 2 = .ok (.getfield 18, 3) := by decide +kernel
theorem d_Reader_next_5 : decode prog_6_method_6_code 5 = .ok (.putfield 15, 3) := by decide +kernel
theorem d_Reader_next_8 : decode prog_6_method_6_code 8 = .ok (.aload_n 0, 1) := by decide +kernel
theorem d_Reader_next_9 : decode prog_6_method_6_code 9 = .ok (.getfield 15, 3) := by decide +kernel
theorem d_Reader_next_12 : decode prog_6_method_6_code 12 = .ok (.aload_n 0, 1) := by decide +kernel
theorem d_Reader_next_13 : decode prog_6_method_6_code 13 = .ok (.getfield 27, 3) := by decide +kernel
theorem d_Reader_next_16 : decode prog_6_method_6_code 16 = .ok (.invokevirtual 34, 3) := by decide +kernel
theorem d_Reader_next_19 : decode prog_6_method_6_code 19 = .ok (.if_icmp .ge 33, 3) := by decide +kernel
theorem d_Reader_next_22 : decode prog_6_method_6_code 22 = .ok (.aload_n 0, 1) := by decide +kernel
theorem d_Reader_next_23 : decode prog_6_method_6_code 23 = .ok (.getfield 27, 3) := by decide +kernel
theorem d_Reader_next_26 : decode prog_6_method_6_code 26 = .ok (.aload_n 0, 1) := by decide +kernel
theorem d_Reader_next_27 : decode prog_6_method_6_code 27 = .ok (.getfield 15, 3) := by decide +kernel
theorem d_Reader_next_30 : decode prog_6_method_6_code 30 = .ok (.invokevirtual 40, 3) := by decide +kernel
theorem d_Reader_next_33 : decode prog_6_method_6_code 33 = .ok (.invokestatic 44, 3) := by decide +kernel
theorem d_Reader_next_36 : decode prog_6_method_6_code 36 = .ok (.ifCond .eq 16, 3) := by decide +kernel
theorem d_Reader_next_39 : decode prog_6_method_6_code 39 = .ok (.aload_n 0, 1) := by decide +kernel
theorem d_Reader_next_40 : decode prog_6_method_6_code 40 = .ok (.dup, 1) := by decide +kernel
theorem d_Reader_next_41 : decode prog_6_method_6_code 41 = .ok (.getfield 15, 3) := by decide +kernel
theorem d_Reader_next_44 : decode prog_6_method_6_code 44 = .ok (.iconst 1, 1) := by decide +kernel
theorem d_Reader_next_45 : decode prog_6_method_6_code 45 = .ok (.iadd, 1) := by decide +kernel
theorem d_Reader_next_46 : decode prog_6_method_6_code 46 = .ok (.putfield 15, 3) := by decide +kernel
theorem d_Reader_next_49 : decode prog_6_method_6_code 49 = .ok (.goto (-41), 3) := by decide +kernel
theorem d_Reader_next_52 : decode prog_6_method_6_code 52 = .ok (.aload_n 0, 1) := by decide +kernel
theorem d_Reader_next_53 : decode prog_6_method_6_code 53 = .ok (.aload_n 0, 1) := by decide +kernel
theorem d_Reader_next_54 : decode prog_6_method_6_code 54 = .ok (.getfield 27, 3) := by decide +kernel
theorem d_Reader_next_57 : decode prog_6_method_6_code 57 = .ok (.aload_n 0, 1) := by decide +kernel
theorem d_Reader_next_58 : decode prog_6_method_6_code 58 = .ok (.getfield 15, 3) := by decide +kernel
theorem d_Reader_next_61 : decode prog_6_method_6_code 61 = .ok (.invokevirtual 40, 3) := by decide +kernel
theorem d_Reader_next_64 : decode prog_6_method_6_code 64 = .ok (.invokestatic 48, 3) := by decide +kernel
theorem d_Reader_next_67 : decode prog_6_method_6_code 67 = .ok (.putfield 11, 3) := by decide +kernel
theorem d_Reader_next_70 : decode prog_6_method_6_code 70 = .ok (.aload_n 0, 1) := by decide +kernel
theorem d_Reader_next_71 : decode prog_6_method_6_code 71 = .ok (.aload_n 0, 1) := by decide +kernel
theorem d_Reader_next_72 : decode prog_6_method_6_code 72 = .ok (.getfield 11, 3) := by decide +kernel
theorem d_Reader_next_75 : decode prog_6_method_6_code 75 = .ok (.ifCond .ne 10, 3) := by decide +kernel
theorem d_Reader_next_78 : decode prog_6_method_6_code 78 = .ok (.aload_n 0, 1) := by decide +kernel
theorem d_Reader_next_79 : decode prog_6_method_6_code 79 = .ok (.getfield 15, 3) := by decide +kernel
theorem d_Reader_next_82 : decode prog_6_method_6_code 82 = .ok (.goto 9, 3) := by decide +kernel
theorem d_Reader_next_85 : decode prog_6_method_6_code 85 = .ok (.aload_n 0, 1) := by decide +kernel
theorem d_Reader_next_86 : decode prog_6_method_6_code 86 = .ok (.getfield 15, 3) := by decide +kernel
theorem d_Reader_next_89 : decode prog_6_method_6_code 89 = .ok (.iconst 1, 1) := by decide +kernel
theorem d_Reader_next_90 : decode prog_6_method_6_code 90 = .ok (.iadd, 1) := by decide +kernel
theorem d_Reader_next_91 : decode prog_6_method_6_code 91 = .ok (.putfield 18, 3) := by decide +kernel
theorem d_Reader_next_94 : decode prog_6_method_6_code 94 = .ok (.aload_n 0, 1) := by decide +kernel
theorem d_Reader_next_95 : decode prog_6_method_6_code 95 = .ok (.getfield 11, 3) := by decide +kernel
theorem d_Reader_next_98 : decode prog_6_method_6_code 98 = .ok (.iconst 1, 1) := by decide +kernel
theorem d_Reader_next_99 : decode prog_6_method_6_code 99 = .ok (.if_icmp .eq 11, 3) := by decide +kernel
theorem d_Reader_next_102 : decode prog_6_method_6_code 102 = .ok (.aload_n 0, 1) := by decide +kernel
theorem d_Reader_next_103 : decode prog_6_method_6_code 103 = .ok (.getfield 11, 3) := by decide +kernel
theorem d_Reader_next_106 : decode prog_6_method_6_code 106 = .ok (.iconst 2, 1) := by decide +kernel
theorem d_Reader_next_107 : decode prog_6_method_6_code 107 = .ok (.if_icmp .ne 51, 3) := by decide +kernel
theorem d_Reader_next_110 : decode prog_6_method_6_code 110 = .ok (.aload_n 0, 1) := by decide +kernel
theorem d_Reader_next_111 : decode prog_6_method_6_code 111 = .ok (.getfield 18, 3) := by decide +kernel
theorem d_Reader_next_114 : decode prog_6_method_6_code 114 = .ok (.aload_n 0, 1) := by decide +kernel
theorem d_Reader_next_115 : decode prog_6_method_6_code 115 = .ok (.getfield 27, 3) := by decide +kernel
theorem d_Reader_next_118 : decode prog_6_method_6_code 118 = .ok (.invokevirtual 34, 3) := by decide +kernel
theorem d_Reader_next_121 : decode prog_6_method_6_code 121 = .ok (.if_icmp .ge 37, 3) := by decide +kernel
theorem d_Reader_next_124 : decode prog_6_method_6_code 124 = .ok (.aload_n 0, 1) := by decide +kernel
theorem d_Reader_next_125 : decode prog_6_method_6_code 125 = .ok (.getfield 27, 3) := by decide +kernel
theorem d_Reader_next_128 : decode prog_6_method_6_code 128 = .ok (.aload_n 0, 1) := by decide +kernel
theorem d_Reader_next_129 : decode prog_6_method_6_code 129 = .ok (.getfield 18, 3) := by decide +kernel
theorem d_Reader_next_132 : decode prog_6_method_6_code 132 = .ok (.invokevirtual 40, 3) := by decide +kernel
theorem d_Reader_next_135 : decode prog_6_method_6_code 135 = .ok (.invokestatic 48, 3) := by decide +kernel
theorem d_Reader_next_138 : decode prog_6_method_6_code 138 = .ok (.aload_n 0, 1) := by decide +kernel
theorem d_Reader_next_139 : decode prog_6_method_6_code 139 = .ok (.getfield 11, 3) := by decide +kernel
theorem d_Reader_next_142 : decode prog_6_method_6_code 142 = .ok (.if_icmp .ne 16, 3) := by decide +kernel
theorem d_Reader_next_145 : decode prog_6_method_6_code 145 = .ok (.aload_n 0, 1) := by decide +kernel
theorem d_Reader_next_146 : decode prog_6_method_6_code 146 = .ok (.dup, 1) := by decide +kernel
theorem d_Reader_next_147 : decode prog_6_method_6_code 147 = .ok (.getfield 18, 3) := by decide +kernel
theorem d_Reader_next_150 : decode prog_6_method_6_code 150 = .ok (.iconst 1, 1) := by decide +kernel
theorem d_Reader_next_151 : decode prog_6_method_6_code 151 = .ok (.iadd, 1) := by decide +kernel
theorem d_Reader_next_152 : decode prog_6_method_6_code 152 = .ok (.putfield 18, 3) := by decide +kernel
theorem d_Reader_next_155 : decode prog_6_method_6_code 155 = .ok (.goto (-45), 3) := by decide +kernel
theorem d_Reader_next_158 : decode prog_6_method_6_code 158 = .ok (.return_, 1) := by decide +kernel
theorem d_Reader_begin_0 : decode prog_6_method_2_code 0 = .ok (.aload_n 0, 1) := by decide +kernel
theorem d_Reader_begin_1 : decode prog_6_method_2_code 1 = .ok (.iconst 0, 1) := by decide +kernel
theorem d_Reader_begin_2 : decode prog_6_method_2_code 2 = .ok (.putfield 18, 3) := by decide +kernel
theorem d_Reader_begin_5 : decode prog_6_method_2_code 5 = .ok (.aload_n 0, 1) := by decide +kernel
theorem d_Reader_begin_6 : decode prog_6_method_2_code 6 = .ok (.iconst 0, 1) := by decide +kernel
theorem d_Reader_begin_7 : decode prog_6_method_2_code 7 = .ok (.putfield 21, 3) := by decide +kernel
theorem d_Reader_begin_10 : decode prog_6_method_2_code 10 = .ok (.aload_n 0, 1) := by decide +kernel
theorem d_Reader_begin_11 : decode prog_6_method_2_code 11 = .ok (.iconst (-1), 1) := by decide +kernel
theorem d_Reader_begin_12 : decode prog_6_method_2_code 12 = .ok (.putfield 24, 3) := by decide +kernel
theorem d_Reader_begin_15 : decode prog_6_method_2_code 15 = .ok (.aload_n 0, 1) := by decide +kernel
theorem d_Reader_begin_16 : decode prog_6_method_2_code 16 = .ok (.invokevirtual 31, 3) := by decide +kernel
theorem d_Reader_begin_19 : decode prog_6_method_2_code 19 = .ok (.return_, 1) := by decide +kernel
theorem d_Reader_sees_0 : decode prog_6_method_9_code 0 = .ok (.aload_n 0, 1) := by decide +kernel
theorem d_Reader_sees_1 : decode prog_6_method_9_code 1 = .ok (.getfield 21, 3) := by decide +kernel
theorem d_Reader_sees_4 : decode prog_6_method_9_code 4 = .ok (.ifCond .ne 27, 3) := by decide +kernel
theorem d_Reader_sees_7 : decode prog_6_method_9_code 7 = .ok (.aload_n 0, 1) := by decide +kernel
theorem d_Reader_sees_8 : decode prog_6_method_9_code 8 = .ok (.getfield 11, 3) := by decide +kernel
theorem d_Reader_sees_11 : decode prog_6_method_9_code 11 = .ok (.iconst 1, 1) := by decide +kernel
theorem d_Reader_sees_12 : decode prog_6_method_9_code 12 = .ok (.if_icmp .ne 19, 3) := by decide +kernel
theorem d_Reader_sees_15 : decode prog_6_method_9_code 15 = .ok (.aload_n 0, 1) := by decide +kernel
theorem d_Reader_sees_16 : decode prog_6_method_9_code 16 = .ok (.getfield 18, 3) := by decide +kernel
theorem d_Reader_sees_19 : decode prog_6_method_9_code 19 = .ok (.aload_n 0, 1) := by decide +kernel
theorem d_Reader_sees_20 : decode prog_6_method_9_code 20 = .ok (.getfield 15, 3) := by decide +kernel
theorem d_Reader_sees_23 : decode prog_6_method_9_code 23 = .ok (.isub, 1) := by decide +kernel
theorem d_Reader_sees_24 : decode prog_6_method_9_code 24 = .ok (.aload_n 1, 1) := by decide +kernel
theorem d_Reader_sees_25 : decode prog_6_method_9_code 25 = .ok (.invokevirtual 51, 3) := by decide +kernel
theorem d_Reader_sees_28 : decode prog_6_method_9_code 28 = .ok (.if_icmp .eq 5, 3) := by decide +kernel
theorem d_Reader_sees_31 : decode prog_6_method_9_code 31 = .ok (.iconst 0, 1) := by decide +kernel
theorem d_Reader_sees_32 : decode prog_6_method_9_code 32 = .ok (.ireturn, 1) := by decide +kernel
theorem d_Reader_sees_33 : decode prog_6_method_9_code 33 = .ok (.iconst 0, 1) := by decide +kernel
theorem d_Reader_sees_34 : decode prog_6_method_9_code 34 = .ok (.istore_n 2, 1) := by decide +kernel
theorem d_Reader_sees_35 : decode prog_6_method_9_code 35 = .ok (.iload_n 2, 1) := by decide +kernel
theorem d_Reader_sees_36 : decode prog_6_method_9_code 36 = .ok (.aload_n 1, 1) := by decide +kernel
theorem d_Reader_sees_37 : decode prog_6_method_9_code 37 = .ok (.invokevirtual 51, 3) := by decide +kernel
theorem d_Reader_sees_40 : decode prog_6_method_9_code 40 = .ok (.if_icmp .ge 32, 3) := by decide +kernel
theorem d_Reader_sees_43 : decode prog_6_method_9_code 43 = .ok (.aload_n 0, 1) := by decide +kernel
theorem d_Reader_sees_44 : decode prog_6_method_9_code 44 = .ok (.getfield 27, 3) := by decide +kernel
theorem d_Reader_sees_47 : decode prog_6_method_9_code 47 = .ok (.aload_n 0, 1) := by decide +kernel
theorem d_Reader_sees_48 : decode prog_6_method_9_code 48 = .ok (.getfield 15, 3) := by decide +kernel
theorem d_Reader_sees_51 : decode prog_6_method_9_code 51 = .ok (.iload_n 2, 1) := by decide +kernel
theorem d_Reader_sees_52 : decode prog_6_method_9_code 52 = .ok (.iadd, 1) := by decide +kernel
theorem d_Reader_sees_53 : decode prog_6_method_9_code 53 = .ok (.invokevirtual 40, 3) := by decide +kernel
theorem d_Reader_sees_56 : decode prog_6_method_9_code 56 = .ok (.aload_n 1, 1) := by decide +kernel
theorem d_Reader_sees_57 : decode prog_6_method_9_code 57 = .ok (.iload_n 2, 1) := by decide +kernel
theorem d_Reader_sees_58 : decode prog_6_method_9_code 58 = .ok (.invokevirtual 56, 3) := by decide +kernel
theorem d_Reader_sees_61 : decode prog_6_method_9_code 61 = .ok (.if_icmp .eq 5, 3) := by decide +kernel
theorem d_Reader_sees_64 : decode prog_6_method_9_code 64 = .ok (.iconst 0, 1) := by decide +kernel
theorem d_Reader_sees_65 : decode prog_6_method_9_code 65 = .ok (.ireturn, 1) := by decide +kernel
theorem d_Reader_sees_66 : decode prog_6_method_9_code 66 = .ok (.iinc 2 1, 3) := by decide +kernel
theorem d_Reader_sees_69 : decode prog_6_method_9_code 69 = .ok (.goto (-34), 3) := by decide +kernel
theorem d_Reader_sees_72 : decode prog_6_method_9_code 72 = .ok (.iconst 1, 1) := by decide +kernel
theorem d_Reader_sees_73 : decode prog_6_method_9_code 73 = .ok (.ireturn, 1) := by decide +kernel
theorem d_Reader_fail_0 : decode prog_6_method_3_code 0 = .ok (.aload_n 0, 1) := by decide +kernel
theorem d_Reader_fail_1 : decode prog_6_method_3_code 1 = .ok (.getfield 21, 3) := by decide +kernel
theorem d_Reader_fail_4 : decode prog_6_method_3_code 4 = .ok (.ifCond .ne 16, 3) := by decide +kernel
theorem d_Reader_fail_7 : decode prog_6_method_3_code 7 = .ok (.aload_n 0, 1) := by decide +kernel
theorem d_Reader_fail_8 : decode prog_6_method_3_code 8 = .ok (.iload_n 1, 1) := by decide +kernel
theorem d_Reader_fail_9 : decode prog_6_method_3_code 9 = .ok (.putfield 21, 3) := by decide +kernel
theorem d_Reader_fail_12 : decode prog_6_method_3_code 12 = .ok (.aload_n 0, 1) := by decide +kernel
theorem d_Reader_fail_13 : decode prog_6_method_3_code 13 = .ok (.aload_n 0, 1) := by decide +kernel
theorem d_Reader_fail_14 : decode prog_6_method_3_code 14 = .ok (.getfield 15, 3) := by decide +kernel
theorem d_Reader_fail_17 : decode prog_6_method_3_code 17 = .ok (.putfield 24, 3) := by decide +kernel
theorem d_Reader_fail_20 : decode prog_6_method_3_code 20 = .ok (.return_, 1) := by decide +kernel
theorem d_Reader_takeWord_0 : decode prog_6_method_11_code 0 = .ok (.aload_n 0, 1) := by decide +kernel
theorem d_Reader_takeWord_1 : decode prog_6_method_11_code 1 = .ok (.aload_n 1, 1) := by decide +kernel
theorem d_Reader_takeWord_2 : decode prog_6_method_11_code 2 = .ok (.invokevirtual 68, 3) := by decide +kernel
theorem d_Reader_takeWord_5 : decode prog_6_method_11_code 5 = .ok (.ifCond .eq 10, 3) := by decide +kernel
theorem d_Reader_takeWord_8 : decode prog_6_method_11_code 8 = .ok (.aload_n 0, 1) := by decide +kernel
theorem d_Reader_takeWord_9 : decode prog_6_method_11_code 9 = .ok (.invokevirtual 31, 3) := by decide +kernel
theorem d_Reader_takeWord_12 : decode prog_6_method_11_code 12 = .ok (.goto 8, 3) := by decide +kernel
theorem d_Reader_takeWord_15 : decode prog_6_method_11_code 15 = .ok (.aload_n 0, 1) := by decide +kernel
theorem d_Reader_takeWord_16 : decode prog_6_method_11_code 16 = .ok (.iconst 1, 1) := by decide +kernel
theorem d_Reader_takeWord_17 : decode prog_6_method_11_code 17 = .ok (.invokevirtual 64, 3) := by decide +kernel
theorem d_Reader_takeWord_20 : decode prog_6_method_11_code 20 = .ok (.return_, 1) := by decide +kernel
theorem d_Reader_takeNumber_0 : decode prog_6_method_13_code 0 = .ok (.iconst 0, 1) := by decide +kernel
theorem d_Reader_takeNumber_1 : decode prog_6_method_13_code 1 = .ok (.istore_n 3, 1) := by decide +kernel
theorem d_Reader_takeNumber_2 : decode prog_6_method_13_code 2 = .ok (.aload_n 0, 1) := by decide +kernel
theorem d_Reader_takeNumber_3 : decode prog_6_method_13_code 3 = .ok (.getfield 21, 3) := by decide +kernel
theorem d_Reader_takeNumber_6 : decode prog_6_method_13_code 6 = .ok (.ifCond .ne 11, 3) := by decide +kernel
theorem d_Reader_takeNumber_9 : decode prog_6_method_13_code 9 = .ok (.aload_n 0, 1) := by decide +kernel
theorem d_Reader_takeNumber_10 : decode prog_6_method_13_code 10 = .ok (.getfield 11, 3) := by decide +kernel
theorem d_Reader_takeNumber_13 : decode prog_6_method_13_code 13 = .ok (.iconst 2, 1) := by decide +kernel
theorem d_Reader_takeNumber_14 : decode prog_6_method_13_code 14 = .ok (.if_icmp .eq 10, 3) := by decide +kernel
theorem d_Reader_takeNumber_17 : decode prog_6_method_13_code 17 = .ok (.aload_n 0, 1) := by decide +kernel
theorem d_Reader_takeNumber_18 : decode prog_6_method_13_code 18 = .ok (.iconst 1, 1) := by decide +kernel
theorem d_Reader_takeNumber_19 : decode prog_6_method_13_code 19 = .ok (.invokevirtual 64, 3) := by decide +kernel
theorem d_Reader_takeNumber_22 : decode prog_6_method_13_code 22 = .ok (.iload_n 1, 1) := by decide +kernel
theorem d_Reader_takeNumber_23 : decode prog_6_method_13_code 23 = .ok (.ireturn, 1) := by decide +kernel
theorem d_Reader_takeNumber_24 : decode prog_6_method_13_code 24 = .ok (.aload_n 0, 1) := by decide +kernel
theorem d_Reader_takeNumber_25 : decode prog_6_method_13_code 25 = .ok (.getfield 15, 3) := by decide +kernel
theorem d_Reader_takeNumber_28 : decode prog_6_method_13_code 28 = .ok (.istore 4, 2) := by decide +kernel
theorem d_Reader_takeNumber_30 : decode prog_6_method_13_code 30 = .ok (.iload 4, 2) := by decide +kernel
theorem d_Reader_takeNumber_32 : decode prog_6_method_13_code 32 = .ok (.aload_n 0, 1) := by decide +kernel
theorem d_Reader_takeNumber_33 : decode prog_6_method_13_code 33 = .ok (.getfield 18, 3) := by decide +kernel
theorem d_Reader_takeNumber_36 : decode prog_6_method_13_code 36 = .ok (.if_icmp .ge 32, 3) := by decide +kernel
theorem d_Reader_takeNumber_39 : decode prog_6_method_13_code 39 = .ok (.iload_n 3, 1) := by decide +kernel
theorem d_Reader_takeNumber_40 : decode prog_6_method_13_code 40 = .ok (.bipush 10, 2) := by decide +kernel
theorem d_Reader_takeNumber_42 : decode prog_6_method_13_code 42 = .ok (.imul, 1) := by decide +kernel
theorem d_Reader_takeNumber_43 : decode prog_6_method_13_code 43 = .ok (.aload_n 0, 1) := by decide +kernel
theorem d_Reader_takeNumber_44 : decode prog_6_method_13_code 44 = .ok (.getfield 27, 3) := by decide +kernel
theorem d_Reader_takeNumber_47 : decode prog_6_method_13_code 47 = .ok (.iload 4, 2) := by decide +kernel
theorem d_Reader_takeNumber_49 : decode prog_6_method_13_code 49 = .ok (.invokevirtual 40, 3) := by decide +kernel
theorem d_Reader_takeNumber_52 : decode prog_6_method_13_code 52 = .ok (.iadd, 1) := by decide +kernel
theorem d_Reader_takeNumber_53 : decode prog_6_method_13_code 53 = .ok (.bipush 48, 2) := by decide +kernel
theorem d_Reader_takeNumber_55 : decode prog_6_method_13_code 55 = .ok (.isub, 1) := by decide +kernel
theorem d_Reader_takeNumber_56 : decode prog_6_method_13_code 56 = .ok (.ldc 72, 2) := by decide +kernel
theorem d_Reader_takeNumber_58 : decode prog_6_method_13_code 58 = .ok (.invokestatic 73, 3) := by decide +kernel
theorem d_Reader_takeNumber_61 : decode prog_6_method_13_code 61 = .ok (.istore_n 3, 1) := by decide +kernel
theorem d_Reader_takeNumber_62 : decode prog_6_method_13_code 62 = .ok (.iinc 4 1, 3) := by decide +kernel
theorem d_Reader_takeNumber_65 : decode prog_6_method_13_code 65 = .ok (.goto (-35), 3) := by decide +kernel
theorem d_Reader_takeNumber_68 : decode prog_6_method_13_code 68 = .ok (.iload_n 3, 1) := by decide +kernel
theorem d_Reader_takeNumber_69 : decode prog_6_method_13_code 69 = .ok (.iload_n 1, 1) := by decide +kernel
theorem d_Reader_takeNumber_70 : decode prog_6_method_13_code 70 = .ok (.iload_n 2, 1) := by decide +kernel
theorem d_Reader_takeNumber_71 : decode prog_6_method_13_code 71 = .ok (.invokestatic 79, 3) := by decide +kernel
theorem d_Reader_takeNumber_74 : decode prog_6_method_13_code 74 = .ok (.ifCond .ne 10, 3) := by decide +kernel
theorem d_Reader_takeNumber_77 : decode prog_6_method_13_code 77 = .ok (.aload_n 0, 1) := by decide +kernel
theorem d_Reader_takeNumber_78 : decode prog_6_method_13_code 78 = .ok (.iconst 2, 1) := by decide +kernel
theorem d_Reader_takeNumber_79 : decode prog_6_method_13_code 79 = .ok (.invokevirtual 64, 3) := by decide +kernel
theorem d_Reader_takeNumber_82 : decode prog_6_method_13_code 82 = .ok (.iload_n 1, 1) := by decide +kernel
theorem d_Reader_takeNumber_83 : decode prog_6_method_13_code 83 = .ok (.ireturn, 1) := by decide +kernel
theorem d_Reader_takeNumber_84 : decode prog_6_method_13_code 84 = .ok (.aload_n 0, 1) := by decide +kernel
theorem d_Reader_takeNumber_85 : decode prog_6_method_13_code 85 = .ok (.invokevirtual 31, 3) := by decide +kernel
theorem d_Reader_takeNumber_88 : decode prog_6_method_13_code 88 = .ok (.iload_n 3, 1) := by decide +kernel
theorem d_Reader_takeNumber_89 : decode prog_6_method_13_code 89 = .ok (.ireturn, 1) := by decide +kernel
theorem d_Reader_seesSign_0 : decode prog_6_method_8_code 0 = .ok (.aload_n 0, 1) := by decide +kernel
theorem d_Reader_seesSign_1 : decode prog_6_method_8_code 1 = .ok (.getfield 21, 3) := by decide +kernel
theorem d_Reader_seesSign_4 : decode prog_6_method_8_code 4 = .ok (.ifCond .ne 15, 3) := by decide +kernel
theorem d_Reader_seesSign_7 : decode prog_6_method_8_code 7 = .ok (.aload_n 0, 1) := by decide +kernel
theorem d_Reader_seesSign_8 : decode prog_6_method_8_code 8 = .ok (.getfield 11, 3) := by decide +kernel
theorem d_Reader_seesSign_11 : decode prog_6_method_8_code 11 = .ok (.iload_n 1, 1) := by decide +kernel
theorem d_Reader_seesSign_12 : decode prog_6_method_8_code 12 = .ok (.if_icmp .ne 7, 3) := by decide +kernel
theorem d_Reader_seesSign_15 : decode prog_6_method_8_code 15 = .ok (.iconst 1, 1) := by decide +kernel
theorem d_Reader_seesSign_16 : decode prog_6_method_8_code 16 = .ok (.goto 4, 3) := by decide +kernel
theorem d_Reader_seesSign_19 : decode prog_6_method_8_code 19 = .ok (.iconst 0, 1) := by decide +kernel
theorem d_Reader_seesSign_20 : decode prog_6_method_8_code 20 = .ok (.ireturn, 1) := by decide +kernel
theorem d_Reader_takeSign_0 : decode prog_6_method_10_code 0 = .ok (.aload_n 0, 1) := by decide +kernel
theorem d_Reader_takeSign_1 : decode prog_6_method_10_code 1 = .ok (.iload_n 1, 1) := by decide +kernel
theorem d_Reader_takeSign_2 : decode prog_6_method_10_code 2 = .ok (.invokevirtual 60, 3) := by decide +kernel
theorem d_Reader_takeSign_5 : decode prog_6_method_10_code 5 = .ok (.ifCond .eq 10, 3) := by decide +kernel
theorem d_Reader_takeSign_8 : decode prog_6_method_10_code 8 = .ok (.aload_n 0, 1) := by decide +kernel
theorem d_Reader_takeSign_9 : decode prog_6_method_10_code 9 = .ok (.invokevirtual 31, 3) := by decide +kernel
theorem d_Reader_takeSign_12 : decode prog_6_method_10_code 12 = .ok (.goto 8, 3) := by decide +kernel
theorem d_Reader_takeSign_15 : decode prog_6_method_10_code 15 = .ok (.aload_n 0, 1) := by decide +kernel
theorem d_Reader_takeSign_16 : decode prog_6_method_10_code 16 = .ok (.iconst 1, 1) := by decide +kernel
theorem d_Reader_takeSign_17 : decode prog_6_method_10_code 17 = .ok (.invokevirtual 64, 3) := by decide +kernel
theorem d_Reader_takeSign_20 : decode prog_6_method_10_code 20 = .ok (.return_, 1) := by decide +kernel
theorem d_SetupReader_readShop_0 : decode prog_9_method_3_code 0 = .ok (.aload_n 0, 1) := by decide +kernel
theorem d_SetupReader_readShop_1 : decode prog_9_method_3_code 1 = .ok (.ldc 57, 2) := by decide +kernel
theorem d_SetupReader_readShop_3 : decode prog_9_method_3_code 3 = .ok (.invokevirtual 59, 3) := by decide +kernel
theorem d_SetupReader_readShop_6 : decode prog_9_method_3_code 6 = .ok (.aload_n 1, 1) := by decide +kernel
theorem d_SetupReader_readShop_7 : decode prog_9_method_3_code 7 = .ok (.aload_n 0, 1) := by decide +kernel
theorem d_SetupReader_readShop_8 : decode prog_9_method_3_code 8 = .ok (.iconst 0, 1) := by decide +kernel
theorem d_SetupReader_readShop_9 : decode prog_9_method_3_code 9 = .ok (.ldc 63, 2) := by decide +kernel
theorem d_SetupReader_readShop_11 : decode prog_9_method_3_code 11 = .ok (.invokevirtual 64, 3) := by decide +kernel
theorem d_SetupReader_readShop_14 : decode prog_9_method_3_code 14 = .ok (.putfield 68, 3) := by decide +kernel
theorem d_SetupReader_readShop_17 : decode prog_9_method_3_code 17 = .ok (.aload_n 1, 1) := by decide +kernel
theorem d_SetupReader_readShop_18 : decode prog_9_method_3_code 18 = .ok (.aload_n 0, 1) := by decide +kernel
theorem d_SetupReader_readShop_19 : decode prog_9_method_3_code 19 = .ok (.iconst 1, 1) := by decide +kernel
theorem d_SetupReader_readShop_20 : decode prog_9_method_3_code 20 = .ok (.bipush 9, 2) := by decide +kernel
theorem d_SetupReader_readShop_22 : decode prog_9_method_3_code 22 = .ok (.invokevirtual 64, 3) := by decide +kernel
theorem d_SetupReader_readShop_25 : decode prog_9_method_3_code 25 = .ok (.putfield 71, 3) := by decide +kernel
theorem d_SetupReader_readShop_28 : decode prog_9_method_3_code 28 = .ok (.aload_n 1, 1) := by decide +kernel
theorem d_SetupReader_readShop_29 : decode prog_9_method_3_code 29 = .ok (.aload_n 0, 1) := by decide +kernel
theorem d_SetupReader_readShop_30 : decode prog_9_method_3_code 30 = .ok (.iconst 0, 1) := by decide +kernel
theorem d_SetupReader_readShop_31 : decode prog_9_method_3_code 31 = .ok (.bipush 99, 2) := by decide +kernel
theorem d_SetupReader_readShop_33 : decode prog_9_method_3_code 33 = .ok (.invokevirtual 64, 3) := by decide +kernel
theorem d_SetupReader_readShop_36 : decode prog_9_method_3_code 36 = .ok (.putfield 74, 3) := by decide +kernel
theorem d_SetupReader_readShop_39 : decode prog_9_method_3_code 39 = .ok (.aload_n 1, 1) := by decide +kernel
theorem d_SetupReader_readShop_40 : decode prog_9_method_3_code 40 = .ok (.aload_n 0, 1) := by decide +kernel
theorem d_SetupReader_readShop_41 : decode prog_9_method_3_code 41 = .ok (.iconst 0, 1) := by decide +kernel
theorem d_SetupReader_readShop_42 : decode prog_9_method_3_code 42 = .ok (.sipush 200, 3) := by decide +kernel
theorem d_SetupReader_readShop_45 : decode prog_9_method_3_code 45 = .ok (.invokevirtual 64, 3) := by decide +kernel
theorem d_SetupReader_readShop_48 : decode prog_9_method_3_code 48 = .ok (.putfield 77, 3) := by decide +kernel
theorem d_SetupReader_readShop_51 : decode prog_9_method_3_code 51 = .ok (.aload_n 1, 1) := by decide +kernel
theorem d_SetupReader_readShop_52 : decode prog_9_method_3_code 52 = .ok (.aload_n 0, 1) := by decide +kernel
theorem d_SetupReader_readShop_53 : decode prog_9_method_3_code 53 = .ok (.iconst 0, 1) := by decide +kernel
theorem d_SetupReader_readShop_54 : decode prog_9_method_3_code 54 = .ok (.sipush 200, 3) := by decide +kernel
theorem d_SetupReader_readShop_57 : decode prog_9_method_3_code 57 = .ok (.invokevirtual 64, 3) := by decide +kernel
theorem d_SetupReader_readShop_60 : decode prog_9_method_3_code 60 = .ok (.putfield 80, 3) := by decide +kernel
theorem d_SetupReader_readShop_63 : decode prog_9_method_3_code 63 = .ok (.aload_n 0, 1) := by decide +kernel
theorem d_SetupReader_readShop_64 : decode prog_9_method_3_code 64 = .ok (.bipush 59, 2) := by decide +kernel
theorem d_SetupReader_readShop_66 : decode prog_9_method_3_code 66 = .ok (.invokevirtual 83, 3) := by decide +kernel
theorem d_SetupReader_readShop_69 : decode prog_9_method_3_code 69 = .ok (.return_, 1) := by decide +kernel
theorem d_Reader_takeCounted_0 : decode prog_6_method_12_code 0 = .ok (.aload_n 0, 1) := by decide +kernel
theorem d_Reader_takeCounted_1 : decode prog_6_method_12_code 1 = .ok (.aload_n 1, 1) := by decide +kernel
theorem d_Reader_takeCounted_2 : decode prog_6_method_12_code 2 = .ok (.invokevirtual 68, 3) := by decide +kernel
theorem d_Reader_takeCounted_5 : decode prog_6_method_12_code 5 = .ok (.ifCond .ne 11, 3) := by decide +kernel
theorem d_Reader_takeCounted_8 : decode prog_6_method_12_code 8 = .ok (.aload_n 0, 1) := by decide +kernel
theorem d_Reader_takeCounted_9 : decode prog_6_method_12_code 9 = .ok (.iconst 1, 1) := by decide +kernel
theorem d_Reader_takeCounted_10 : decode prog_6_method_12_code 10 = .ok (.invokevirtual 64, 3) := by decide +kernel
theorem d_Reader_takeCounted_13 : decode prog_6_method_12_code 13 = .ok (.goto 20, 3) := by decide +kernel
theorem d_Reader_takeCounted_16 : decode prog_6_method_12_code 16 = .ok (.iload_n 2, 1) := by decide +kernel
theorem d_Reader_takeCounted_17 : decode prog_6_method_12_code 17 = .ok (.iload_n 3, 1) := by decide +kernel
theorem d_Reader_takeCounted_18 : decode prog_6_method_12_code 18 = .ok (.if_icmp .lt 11, 3) := by decide +kernel
theorem d_Reader_takeCounted_21 : decode prog_6_method_12_code 21 = .ok (.aload_n 0, 1) := by decide +kernel
theorem d_Reader_takeCounted_22 : decode prog_6_method_12_code 22 = .ok (.iconst 4, 1) := by decide +kernel
theorem d_Reader_takeCounted_23 : decode prog_6_method_12_code 23 = .ok (.invokevirtual 64, 3) := by decide +kernel
theorem d_Reader_takeCounted_26 : decode prog_6_method_12_code 26 = .ok (.goto 7, 3) := by decide +kernel
theorem d_Reader_takeCounted_29 : decode prog_6_method_12_code 29 = .ok (.aload_n 0, 1) := by decide +kernel
theorem d_Reader_takeCounted_30 : decode prog_6_method_12_code 30 = .ok (.invokevirtual 31, 3) := by decide +kernel
theorem d_Reader_takeCounted_33 : decode prog_6_method_12_code 33 = .ok (.return_, 1) := by decide +kernel
theorem d_Names_codeOf_0 : decode prog_3_method_2_code 0 = .ok (.iload_n 2, 1) := by decide +kernel
theorem d_Names_codeOf_1 : decode prog_3_method_2_code 1 = .ok (.iload_n 1, 1) := by decide +kernel
theorem d_Names_codeOf_2 : decode prog_3_method_2_code 2 = .ok (.isub, 1) := by decide +kernel
theorem d_Names_codeOf_3 : decode prog_3_method_2_code 3 = .ok (.iconst 1, 1) := by decide +kernel
theorem d_Names_codeOf_4 : decode prog_3_method_2_code 4 = .ok (.if_icmp .lt 11, 3) := by decide +kernel
theorem d_Names_codeOf_7 : decode prog_3_method_2_code 7 = .ok (.iload_n 2, 1) := by decide +kernel
theorem d_Names_codeOf_8 : decode prog_3_method_2_code 8 = .ok (.iload_n 1, 1) := by decide +kernel
theorem d_Names_codeOf_9 : decode prog_3_method_2_code 9 = .ok (.isub, 1) := by decide +kernel
theorem d_Names_codeOf_10 : decode prog_3_method_2_code 10 = .ok (.bipush 6, 2) := by decide +kernel
theorem d_Names_codeOf_12 : decode prog_3_method_2_code 12 = .ok (.if_icmp .le 5, 3) := by decide +kernel
theorem d_Names_codeOf_15 : decode prog_3_method_2_code 15 = .ok (.iconst 0, 1) := by decide +kernel
theorem d_Names_codeOf_16 : decode prog_3_method_2_code 16 = .ok (.ireturn, 1) := by decide +kernel
theorem d_Names_codeOf_17 : decode prog_3_method_2_code 17 = .ok (.iconst 0, 1) := by decide +kernel
theorem d_Names_codeOf_18 : decode prog_3_method_2_code 18 = .ok (.istore_n 3, 1) := by decide +kernel
theorem d_Names_codeOf_19 : decode prog_3_method_2_code 19 = .ok (.iload_n 1, 1) := by decide +kernel
theorem d_Names_codeOf_20 : decode prog_3_method_2_code 20 = .ok (.istore 4, 2) := by decide +kernel
theorem d_Names_codeOf_22 : decode prog_3_method_2_code 22 = .ok (.iload 4, 2) := by decide +kernel
theorem d_Names_codeOf_24 : decode prog_3_method_2_code 24 = .ok (.iload_n 2, 1) := by decide +kernel
theorem d_Names_codeOf_25 : decode prog_3_method_2_code 25 = .ok (.if_icmp .ge 45, 3) := by decide +kernel
theorem d_Names_codeOf_28 : decode prog_3_method_2_code 28 = .ok (.aload_n 0, 1) := by decide +kernel
theorem d_Names_codeOf_29 : decode prog_3_method_2_code 29 = .ok (.iload 4, 2) := by decide +kernel
theorem d_Names_codeOf_31 : decode prog_3_method_2_code 31 = .ok (.invokevirtual 19, 3) := by decide +kernel
theorem d_Names_codeOf_34 : decode prog_3_method_2_code 34 = .ok (.istore 5, 2) := by decide +kernel
theorem d_Names_codeOf_36 : decode prog_3_method_2_code 36 = .ok (.iload 5, 2) := by decide +kernel
theorem d_Names_codeOf_38 : decode prog_3_method_2_code 38 = .ok (.bipush 97, 2) := by decide +kernel
theorem d_Names_codeOf_40 : decode prog_3_method_2_code 40 = .ok (.if_icmp .lt 10, 3) := by decide +kernel
theorem d_Names_codeOf_43 : decode prog_3_method_2_code 43 = .ok (.iload 5, 2) := by decide +kernel
theorem d_Names_codeOf_45 : decode prog_3_method_2_code 45 = .ok (.bipush 122, 2) := by decide +kernel
theorem d_Names_codeOf_47 : decode prog_3_method_2_code 47 = .ok (.if_icmp .le 5, 3) := by decide +kernel
theorem d_Names_codeOf_50 : decode prog_3_method_2_code 50 = .ok (.iconst 0, 1) := by decide +kernel
theorem d_Names_codeOf_51 : decode prog_3_method_2_code 51 = .ok (.ireturn, 1) := by decide +kernel
theorem d_Names_codeOf_52 : decode prog_3_method_2_code 52 = .ok (.iload_n 3, 1) := by decide +kernel
theorem d_Names_codeOf_53 : decode prog_3_method_2_code 53 = .ok (.iconst 5, 1) := by decide +kernel
theorem d_Names_codeOf_54 : decode prog_3_method_2_code 54 = .ok (.ishl, 1) := by decide +kernel
theorem d_Names_codeOf_55 : decode prog_3_method_2_code 55 = .ok (.iload 5, 2) := by decide +kernel
theorem d_Names_codeOf_57 : decode prog_3_method_2_code 57 = .ok (.bipush 97, 2) := by decide +kernel
theorem d_Names_codeOf_59 : decode prog_3_method_2_code 59 = .ok (.isub, 1) := by decide +kernel
theorem d_Names_codeOf_60 : decode prog_3_method_2_code 60 = .ok (.iconst 1, 1) := by decide +kernel
theorem d_Names_codeOf_61 : decode prog_3_method_2_code 61 = .ok (.iadd, 1) := by decide +kernel
theorem d_Names_codeOf_62 : decode prog_3_method_2_code 62 = .ok (.ior, 1) := by decide +kernel
theorem d_Names_codeOf_63 : decode prog_3_method_2_code 63 = .ok (.istore_n 3, 1) := by decide +kernel
theorem d_Names_codeOf_64 : decode prog_3_method_2_code 64 = .ok (.iinc 4 1, 3) := by decide +kernel
theorem d_Names_codeOf_67 : decode prog_3_method_2_code 67 = .ok (.goto (-45), 3) := by decide +kernel
theorem d_Names_codeOf_70 : decode prog_3_method_2_code 70 = .ok (.iload_n 3, 1) := by decide +kernel
theorem d_Names_codeOf_71 : decode prog_3_method_2_code 71 = .ok (.ireturn, 1) := by decide +kernel
theorem d_Reader_codeOfName_0 : decode prog_6_method_16_code 0 = .ok (.aload_n 0, 1) := by decide +kernel
theorem d_Reader_codeOfName_1 : decode prog_6_method_16_code 1 = .ok (.getfield 21, 3) := by decide +kernel
theorem d_Reader_codeOfName_4 : decode prog_6_method_16_code 4 = .ok (.ifCond .ne 11, 3) := by decide +kernel
theorem d_Reader_codeOfName_7 : decode prog_6_method_16_code 7 = .ok (.aload_n 0, 1) := by decide +kernel
theorem d_Reader_codeOfName_8 : decode prog_6_method_16_code 8 = .ok (.getfield 11, 3) := by decide +kernel
theorem d_Reader_codeOfName_11 : decode prog_6_method_16_code 11 = .ok (.iconst 1, 1) := by decide +kernel
theorem d_Reader_codeOfName_12 : decode prog_6_method_16_code 12 = .ok (.if_icmp .eq 10, 3) := by decide +kernel
theorem d_Reader_codeOfName_15 : decode prog_6_method_16_code 15 = .ok (.aload_n 0, 1) := by decide +kernel
theorem d_Reader_codeOfName_16 : decode prog_6_method_16_code 16 = .ok (.iconst 1, 1) := by decide +kernel
theorem d_Reader_codeOfName_17 : decode prog_6_method_16_code 17 = .ok (.invokevirtual 64, 3) := by decide +kernel
theorem d_Reader_codeOfName_20 : decode prog_6_method_16_code 20 = .ok (.iconst 0, 1) := by decide +kernel
theorem d_Reader_codeOfName_21 : decode prog_6_method_16_code 21 = .ok (.ireturn, 1) := by decide +kernel
theorem d_Reader_codeOfName_22 : decode prog_6_method_16_code 22 = .ok (.aload_n 0, 1) := by decide +kernel
theorem d_Reader_codeOfName_23 : decode prog_6_method_16_code 23 = .ok (.getfield 18, 3) := by decide +kernel
theorem d_Reader_codeOfName_26 : decode prog_6_method_16_code 26 = .ok (.aload_n 0, 1) := by decide +kernel
theorem d_Reader_codeOfName_27 : decode prog_6_method_16_code 27 = .ok (.getfield 15, 3) := by decide +kernel
theorem d_Reader_codeOfName_30 : decode prog_6_method_16_code 30 = .ok (.isub, 1) := by decide +kernel
theorem d_Reader_codeOfName_31 : decode prog_6_method_16_code 31 = .ok (.bipush 6, 2) := by decide +kernel
theorem d_Reader_codeOfName_33 : decode prog_6_method_16_code 33 = .ok (.if_icmp .le 10, 3) := by decide +kernel
theorem d_Reader_codeOfName_36 : decode prog_6_method_16_code 36 = .ok (.aload_n 0, 1) := by decide +kernel
theorem d_Reader_codeOfName_37 : decode prog_6_method_16_code 37 = .ok (.iconst 2, 1) := by decide +kernel
theorem d_Reader_codeOfName_38 : decode prog_6_method_16_code 38 = .ok (.invokevirtual 64, 3) := by decide +kernel
theorem d_Reader_codeOfName_41 : decode prog_6_method_16_code 41 = .ok (.iconst 0, 1) := by decide +kernel
theorem d_Reader_codeOfName_42 : decode prog_6_method_16_code 42 = .ok (.ireturn, 1) := by decide +kernel
theorem d_Reader_codeOfName_43 : decode prog_6_method_16_code 43 = .ok (.aload_n 0, 1) := by decide +kernel
theorem d_Reader_codeOfName_44 : decode prog_6_method_16_code 44 = .ok (.getfield 27, 3) := by decide +kernel
theorem d_Reader_codeOfName_47 : decode prog_6_method_16_code 47 = .ok (.aload_n 0, 1) := by decide +kernel
theorem d_Reader_codeOfName_48 : decode prog_6_method_16_code 48 = .ok (.getfield 15, 3) := by decide +kernel
theorem d_Reader_codeOfName_51 : decode prog_6_method_16_code 51 = .ok (.aload_n 0, 1) := by decide +kernel
theorem d_Reader_codeOfName_52 : decode prog_6_method_16_code 52 = .ok (.getfield 18, 3) := by decide +kernel
theorem d_Reader_codeOfName_55 : decode prog_6_method_16_code 55 = .ok (.invokestatic 91, 3) := by decide +kernel
theorem d_Reader_codeOfName_58 : decode prog_6_method_16_code 58 = .ok (.ireturn, 1) := by decide +kernel
theorem d_Names_find_0 : decode prog_3_method_4_code 0 = .ok (.iconst 0, 1) := by decide +kernel
theorem d_Names_find_1 : decode prog_3_method_4_code 1 = .ok (.istore_n 2, 1) := by decide +kernel
theorem d_Names_find_2 : decode prog_3_method_4_code 2 = .ok (.iload_n 2, 1) := by decide +kernel
theorem d_Names_find_3 : decode prog_3_method_4_code 3 = .ok (.aload_n 0, 1) := by decide +kernel
theorem d_Names_find_4 : decode prog_3_method_4_code 4 = .ok (.getfield 15, 3) := by decide +kernel
theorem d_Names_find_7 : decode prog_3_method_4_code 7 = .ok (.if_icmp .ge 21, 3) := by decide +kernel
theorem d_Names_find_10 : decode prog_3_method_4_code 10 = .ok (.aload_n 0, 1) := by decide +kernel
theorem d_Names_find_11 : decode prog_3_method_4_code 11 = .ok (.getfield 9, 3) := by decide +kernel
theorem d_Names_find_14 : decode prog_3_method_4_code 14 = .ok (.iload_n 2, 1) := by decide +kernel
theorem d_Names_find_15 : decode prog_3_method_4_code 15 = .ok (.iaload, 1) := by decide +kernel
theorem d_Names_find_16 : decode prog_3_method_4_code 16 = .ok (.iload_n 1, 1) := by decide +kernel
theorem d_Names_find_17 : decode prog_3_method_4_code 17 = .ok (.if_icmp .ne 5, 3) := by decide +kernel
theorem d_Names_find_20 : decode prog_3_method_4_code 20 = .ok (.iload_n 2, 1) := by decide +kernel
theorem d_Names_find_21 : decode prog_3_method_4_code 21 = .ok (.ireturn, 1) := by decide +kernel
theorem d_Names_find_22 : decode prog_3_method_4_code 22 = .ok (.iinc 2 1, 3) := by decide +kernel
theorem d_Names_find_25 : decode prog_3_method_4_code 25 = .ok (.goto (-23), 3) := by decide +kernel
theorem d_Names_find_28 : decode prog_3_method_4_code 28 = .ok (.iconst (-1), 1) := by decide +kernel
theorem d_Names_find_29 : decode prog_3_method_4_code 29 = .ok (.ireturn, 1) := by decide +kernel
theorem d_Reader_takeNewName_0 : decode prog_6_method_14_code 0 = .ok (.aload_n 0, 1) := by decide +kernel
theorem d_Reader_takeNewName_1 : decode prog_6_method_14_code 1 = .ok (.invokevirtual 83, 3) := by decide +kernel
theorem d_Reader_takeNewName_4 : decode prog_6_method_14_code 4 = .ok (.istore_n 2, 1) := by decide +kernel
theorem d_Reader_takeNewName_5 : decode prog_6_method_14_code 5 = .ok (.aload_n 1, 1) := by decide +kernel
theorem d_Reader_takeNewName_6 : decode prog_6_method_14_code 6 = .ok (.iload_n 2, 1) := by decide +kernel
theorem d_Reader_takeNewName_7 : decode prog_6_method_14_code 7 = .ok (.invokevirtual 86, 3) := by decide +kernel
theorem d_Reader_takeNewName_10 : decode prog_6_method_14_code 10 = .ok (.iconst (-1), 1) := by decide +kernel
theorem d_Reader_takeNewName_11 : decode prog_6_method_14_code 11 = .ok (.if_icmp .eq 8, 3) := by decide +kernel
theorem d_Reader_takeNewName_14 : decode prog_6_method_14_code 14 = .ok (.aload_n 0, 1) := by decide +kernel
theorem d_Reader_takeNewName_15 : decode prog_6_method_14_code 15 = .ok (.iconst 3, 1) := by decide +kernel
theorem d_Reader_takeNewName_16 : decode prog_6_method_14_code 16 = .ok (.invokevirtual 64, 3) := by decide +kernel
theorem d_Reader_takeNewName_19 : decode prog_6_method_14_code 19 = .ok (.aload_n 0, 1) := by decide +kernel
theorem d_Reader_takeNewName_20 : decode prog_6_method_14_code 20 = .ok (.getfield 21, 3) := by decide +kernel
theorem d_Reader_takeNewName_23 : decode prog_6_method_14_code 23 = .ok (.ifCond .ne 7, 3) := by decide +kernel
theorem d_Reader_takeNewName_26 : decode prog_6_method_14_code 26 = .ok (.aload_n 0, 1) := by decide +kernel
theorem d_Reader_takeNewName_27 : decode prog_6_method_14_code 27 = .ok (.invokevirtual 31, 3) := by decide +kernel
theorem d_Reader_takeNewName_30 : decode prog_6_method_14_code 30 = .ok (.iload_n 2, 1) := by decide +kernel
theorem d_Reader_takeNewName_31 : decode prog_6_method_14_code 31 = .ok (.ireturn, 1) := by decide +kernel
theorem d_Names_add_0 : decode prog_3_method_5_code 0 = .ok (.aload_n 0, 1) := by decide +kernel
theorem d_Names_add_1 : decode prog_3_method_5_code 1 = .ok (.getfield 15, 3) := by decide +kernel
theorem d_Names_add_4 : decode prog_3_method_5_code 4 = .ok (.bipush 8, 2) := by decide +kernel
theorem d_Names_add_6 : decode prog_3_method_5_code 6 = .ok (.if_icmp .ge 23, 3) := by decide +kernel
theorem d_Names_add_9 : decode prog_3_method_5_code 9 = .ok (.aload_n 0, 1) := by decide +kernel
theorem d_Names_add_10 : decode prog_3_method_5_code 10 = .ok (.getfield 9, 3) := by decide +kernel
theorem d_Names_add_13 : decode prog_3_method_5_code 13 = .ok (.aload_n 0, 1) := by decide +kernel
theorem d_Names_add_14 : decode prog_3_method_5_code 14 = .ok (.getfield 15, 3) := by decide +kernel
theorem d_Names_add_17 : decode prog_3_method_5_code 17 = .ok (.iload_n 1, 1) := by decide +kernel
theorem d_Names_add_18 : decode prog_3_method_5_code 18 = .ok (.iastore, 1) := by decide +kernel
theorem d_Names_add_19 : decode prog_3_method_5_code 19 = .ok (.aload_n 0, 1) := by decide +kernel
theorem d_Names_add_20 : decode prog_3_method_5_code 20 = .ok (.dup, 1) := by decide +kernel
theorem d_Names_add_21 : decode prog_3_method_5_code 21 = .ok (.getfield 15, 3) := by decide +kernel
theorem d_Names_add_24 : decode prog_3_method_5_code 24 = .ok (.iconst 1, 1) := by decide +kernel
theorem d_Names_add_25 : decode prog_3_method_5_code 25 = .ok (.iadd, 1) := by decide +kernel
theorem d_Names_add_26 : decode prog_3_method_5_code 26 = .ok (.putfield 15, 3) := by decide +kernel
theorem d_Names_add_29 : decode prog_3_method_5_code 29 = .ok (.return_, 1) := by decide +kernel
theorem d_SetupReader_readNames_0 : decode prog_9_method_4_code 0 = .ok (.aload_n 0, 1) := by decide +kernel
theorem d_SetupReader_readNames_1 : decode prog_9_method_4_code 1 = .ok (.aload_n 1, 1) := by decide +kernel
theorem d_SetupReader_readNames_2 : decode prog_9_method_4_code 2 = .ok (.invokevirtual 87, 3) := by decide +kernel
theorem d_SetupReader_readNames_5 : decode prog_9_method_4_code 5 = .ok (.ifCond .ne 8, 3) := by decide +kernel
theorem d_SetupReader_readNames_8 : decode prog_9_method_4_code 8 = .ok (.aload_n 0, 1) := by decide +kernel
theorem d_SetupReader_readNames_9 : decode prog_9_method_4_code 9 = .ok (.iconst 1, 1) := by decide +kernel
theorem d_SetupReader_readNames_10 : decode prog_9_method_4_code 10 = .ok (.invokevirtual 49, 3) := by decide +kernel
theorem d_SetupReader_readNames_13 : decode prog_9_method_4_code 13 = .ok (.iconst 0, 1) := by decide +kernel
theorem d_SetupReader_readNames_14 : decode prog_9_method_4_code 14 = .ok (.istore_n 3, 1) := by decide +kernel
theorem d_SetupReader_readNames_15 : decode prog_9_method_4_code 15 = .ok (.iload_n 3, 1) := by decide +kernel
theorem d_SetupReader_readNames_16 : decode prog_9_method_4_code 16 = .ok (.bipush 6, 2) := by decide +kernel
theorem d_SetupReader_readNames_18 : decode prog_9_method_4_code 18 = .ok (.if_icmp .gt 40, 3) := by decide +kernel
theorem d_SetupReader_readNames_21 : decode prog_9_method_4_code 21 = .ok (.aload_n 0, 1) := by decide +kernel
theorem d_SetupReader_readNames_22 : decode prog_9_method_4_code 22 = .ok (.aload_n 1, 1) := by decide +kernel
theorem d_SetupReader_readNames_23 : decode prog_9_method_4_code 23 = .ok (.invokevirtual 87, 3) := by decide +kernel
theorem d_SetupReader_readNames_26 : decode prog_9_method_4_code 26 = .ok (.ifCond .eq 32, 3) := by decide +kernel
theorem d_SetupReader_readNames_29 : decode prog_9_method_4_code 29 = .ok (.aload_n 0, 1) := by decide +kernel
theorem d_SetupReader_readNames_30 : decode prog_9_method_4_code 30 = .ok (.aload_n 1, 1) := by decide +kernel
theorem d_SetupReader_readNames_31 : decode prog_9_method_4_code 31 = .ok (.iload_n 3, 1) := by decide +kernel
theorem d_SetupReader_readNames_32 : decode prog_9_method_4_code 32 = .ok (.bipush 6, 2) := by decide +kernel
theorem d_SetupReader_readNames_34 : decode prog_9_method_4_code 34 = .ok (.invokevirtual 91, 3) := by decide +kernel
theorem d_SetupReader_readNames_37 : decode prog_9_method_4_code 37 = .ok (.aload_n 2, 1) := by decide +kernel
theorem d_SetupReader_readNames_38 : decode prog_9_method_4_code 38 = .ok (.aload_n 0, 1) := by decide +kernel
theorem d_SetupReader_readNames_39 : decode prog_9_method_4_code 39 = .ok (.aload_n 2, 1) := by decide +kernel
theorem d_SetupReader_readNames_40 : decode prog_9_method_4_code 40 = .ok (.invokevirtual 95, 3) := by decide +kernel
theorem d_SetupReader_readNames_43 : decode prog_9_method_4_code 43 = .ok (.invokevirtual 99, 3) := by decide +kernel
theorem d_SetupReader_readNames_46 : decode prog_9_method_4_code 46 = .ok (.aload_n 0, 1) := by decide +kernel
theorem d_SetupReader_readNames_47 : decode prog_9_method_4_code 47 = .ok (.bipush 59, 2) := by decide +kernel
theorem d_SetupReader_readNames_49 : decode prog_9_method_4_code 49 = .ok (.invokevirtual 83, 3) := by decide +kernel
theorem d_SetupReader_readNames_52 : decode prog_9_method_4_code 52 = .ok (.iinc 3 1, 3) := by decide +kernel
theorem d_SetupReader_readNames_55 : decode prog_9_method_4_code 55 = .ok (.goto (-40), 3) := by decide +kernel
theorem d_SetupReader_readNames_58 : decode prog_9_method_4_code 58 = .ok (.return_, 1) := by decide +kernel
theorem d_Setup_addCustomer_0 : decode prog_8_method_3_code 0 = .ok (.aload_n 0, 1) := by decide +kernel
theorem d_Setup_addCustomer_1 : decode prog_8_method_3_code 1 = .ok (.getfield 37, 3) := by decide +kernel
theorem d_Setup_addCustomer_4 : decode prog_8_method_3_code 4 = .ok (.getfield 53, 3) := by decide +kernel
theorem d_Setup_addCustomer_7 : decode prog_8_method_3_code 7 = .ok (.istore 4, 2) := by decide +kernel
theorem d_Setup_addCustomer_9 : decode prog_8_method_3_code 9 = .ok (.iload 4, 2) := by decide +kernel
theorem d_Setup_addCustomer_11 : decode prog_8_method_3_code 11 = .ok (.bipush 8, 2) := by decide +kernel
theorem d_Setup_addCustomer_13 : decode prog_8_method_3_code 13 = .ok (.if_icmp .ge 27, 3) := by decide +kernel
theorem d_Setup_addCustomer_16 : decode prog_8_method_3_code 16 = .ok (.aload_n 0, 1) := by decide +kernel
theorem d_Setup_addCustomer_17 : decode prog_8_method_3_code 17 = .ok (.getfield 40, 3) := by decide +kernel
theorem d_Setup_addCustomer_20 : decode prog_8_method_3_code 20 = .ok (.iload 4, 2) := by decide +kernel
theorem d_Setup_addCustomer_22 : decode prog_8_method_3_code 22 = .ok (.iload_n 2, 1) := by decide +kernel
theorem d_Setup_addCustomer_23 : decode prog_8_method_3_code 23 = .ok (.iastore, 1) := by decide +kernel
theorem d_Setup_addCustomer_24 : decode prog_8_method_3_code 24 = .ok (.aload_n 0, 1) := by decide +kernel
theorem d_Setup_addCustomer_25 : decode prog_8_method_3_code 25 = .ok (.getfield 44, 3) := by decide +kernel
theorem d_Setup_addCustomer_28 : decode prog_8_method_3_code 28 = .ok (.iload 4, 2) := by decide +kernel
theorem d_Setup_addCustomer_30 : decode prog_8_method_3_code 30 = .ok (.iload_n 3, 1) := by decide +kernel
theorem d_Setup_addCustomer_31 : decode prog_8_method_3_code 31 = .ok (.iastore, 1) := by decide +kernel
theorem d_Setup_addCustomer_32 : decode prog_8_method_3_code 32 = .ok (.aload_n 0, 1) := by decide +kernel
theorem d_Setup_addCustomer_33 : decode prog_8_method_3_code 33 = .ok (.getfield 37, 3) := by decide +kernel
theorem d_Setup_addCustomer_36 : decode prog_8_method_3_code 36 = .ok (.iload_n 1, 1) := by decide +kernel
theorem d_Setup_addCustomer_37 : decode prog_8_method_3_code 37 = .ok (.invokevirtual 56, 3) := by decide +kernel
theorem d_Setup_addCustomer_40 : decode prog_8_method_3_code 40 = .ok (.return_, 1) := by decide +kernel
theorem d_SetupReader_readCustomers_0 : decode prog_9_method_5_code 0 = .ok (.iconst 0, 1) := by decide +kernel
theorem d_SetupReader_readCustomers_1 : decode prog_9_method_5_code 1 = .ok (.istore_n 2, 1) := by decide +kernel
theorem d_SetupReader_readCustomers_2 : decode prog_9_method_5_code 2 = .ok (.iload_n 2, 1) := by decide +kernel
theorem d_SetupReader_readCustomers_3 : decode prog_9_method_5_code 3 = .ok (.bipush 8, 2) := by decide +kernel
theorem d_SetupReader_readCustomers_5 : decode prog_9_method_5_code 5 = .ok (.if_icmp .gt 70, 3) := by decide +kernel
theorem d_SetupReader_readCustomers_8 : decode prog_9_method_5_code 8 = .ok (.aload_n 0, 1) := by decide +kernel
theorem d_SetupReader_readCustomers_9 : decode prog_9_method_5_code 9 = .ok (.ldc 104, 2) := by decide +kernel
theorem d_SetupReader_readCustomers_11 : decode prog_9_method_5_code 11 = .ok (.invokevirtual 87, 3) := by decide +kernel
theorem d_SetupReader_readCustomers_14 : decode prog_9_method_5_code 14 = .ok (.ifCond .eq 61, 3) := by decide +kernel
theorem d_SetupReader_readCustomers_17 : decode prog_9_method_5_code 17 = .ok (.aload_n 0, 1) := by decide +kernel
theorem d_SetupReader_readCustomers_18 : decode prog_9_method_5_code 18 = .ok (.ldc 104, 2) := by decide +kernel
theorem d_SetupReader_readCustomers_20 : decode prog_9_method_5_code 20 = .ok (.iload_n 2, 1) := by decide +kernel
theorem d_SetupReader_readCustomers_21 : decode prog_9_method_5_code 21 = .ok (.bipush 8, 2) := by decide +kernel
theorem d_SetupReader_readCustomers_23 : decode prog_9_method_5_code 23 = .ok (.invokevirtual 91, 3) := by decide +kernel
theorem d_SetupReader_readCustomers_26 : decode prog_9_method_5_code 26 = .ok (.aload_n 0, 1) := by decide +kernel
theorem d_SetupReader_readCustomers_27 : decode prog_9_method_5_code 27 = .ok (.aload_n 1, 1) := by decide +kernel
theorem d_SetupReader_readCustomers_28 : decode prog_9_method_5_code 28 = .ok (.getfield 106, 3) := by decide +kernel
theorem d_SetupReader_readCustomers_31 : decode prog_9_method_5_code 31 = .ok (.invokevirtual 95, 3) := by decide +kernel
theorem d_SetupReader_readCustomers_34 : decode prog_9_method_5_code 34 = .ok (.istore_n 3, 1) := by decide +kernel
theorem d_SetupReader_readCustomers_35 : decode prog_9_method_5_code 35 = .ok (.aload_n 0, 1) := by decide +kernel
theorem d_SetupReader_readCustomers_36 : decode prog_9_method_5_code 36 = .ok (.iconst 0, 1) := by decide +kernel
theorem d_SetupReader_readCustomers_37 : decode prog_9_method_5_code 37 = .ok (.sipush 9999, 3) := by decide +kernel
theorem d_SetupReader_readCustomers_40 : decode prog_9_method_5_code 40 = .ok (.invokevirtual 64, 3) := by decide +kernel
theorem d_SetupReader_readCustomers_43 : decode prog_9_method_5_code 43 = .ok (.istore 4, 2) := by decide +kernel
theorem d_SetupReader_readCustomers_45 : decode prog_9_method_5_code 45 = .ok (.aload_n 0, 1) := by decide +kernel
theorem d_SetupReader_readCustomers_46 : decode prog_9_method_5_code 46 = .ok (.iconst 1, 1) := by decide +kernel
theorem d_SetupReader_readCustomers_47 : decode prog_9_method_5_code 47 = .ok (.bipush 30, 2) := by decide +kernel
theorem d_SetupReader_readCustomers_49 : decode prog_9_method_5_code 49 = .ok (.invokevirtual 64, 3) := by decide +kernel
theorem d_SetupReader_readCustomers_52 : decode prog_9_method_5_code 52 = .ok (.istore 5, 2) := by decide +kernel
theorem d_SetupReader_readCustomers_54 : decode prog_9_method_5_code 54 = .ok (.aload_n 0, 1) := by decide +kernel
theorem d_SetupReader_readCustomers_55 : decode prog_9_method_5_code 55 = .ok (.bipush 59, 2) := by decide +kernel
theorem d_SetupReader_readCustomers_57 : decode prog_9_method_5_code 57 = .ok (.invokevirtual 83, 3) := by decide +kernel
theorem d_SetupReader_readCustomers_60 : decode prog_9_method_5_code 60 = .ok (.aload_n 1, 1) := by decide +kernel
theorem d_SetupReader_readCustomers_61 : decode prog_9_method_5_code 61 = .ok (.iload_n 3, 1) := by decide +kernel
theorem d_SetupReader_readCustomers_62 : decode prog_9_method_5_code 62 = .ok (.iload 4, 2) := by decide +kernel
theorem d_SetupReader_readCustomers_64 : decode prog_9_method_5_code 64 = .ok (.iload 5, 2) := by decide +kernel
theorem d_SetupReader_readCustomers_66 : decode prog_9_method_5_code 66 = .ok (.invokevirtual 109, 3) := by decide +kernel
theorem d_SetupReader_readCustomers_69 : decode prog_9_method_5_code 69 = .ok (.iinc 2 1, 3) := by decide +kernel
theorem d_SetupReader_readCustomers_72 : decode prog_9_method_5_code 72 = .ok (.goto (-70), 3) := by decide +kernel
theorem d_SetupReader_readCustomers_75 : decode prog_9_method_5_code 75 = .ok (.return_, 1) := by decide +kernel
theorem d_Setup_addOwl_0 : decode prog_8_method_4_code 0 = .ok (.aload_n 0, 1) := by decide +kernel
theorem d_Setup_addOwl_1 : decode prog_8_method_4_code 1 = .ok (.getfield 50, 3) := by decide +kernel
theorem d_Setup_addOwl_4 : decode prog_8_method_4_code 4 = .ok (.iconst 5, 1) := by decide +kernel
theorem d_Setup_addOwl_5 : decode prog_8_method_4_code 5 = .ok (.if_icmp .ge 23, 3) := by decide +kernel
theorem d_Setup_addOwl_8 : decode prog_8_method_4_code 8 = .ok (.aload_n 0, 1) := by decide +kernel
theorem d_Setup_addOwl_9 : decode prog_8_method_4_code 9 = .ok (.getfield 47, 3) := by decide +kernel
theorem d_Setup_addOwl_12 : decode prog_8_method_4_code 12 = .ok (.aload_n 0, 1) := by decide +kernel
theorem d_Setup_addOwl_13 : decode prog_8_method_4_code 13 = .ok (.getfield 50, 3) := by decide +kernel
theorem d_Setup_addOwl_16 : decode prog_8_method_4_code 16 = .ok (.iload_n 1, 1) := by decide +kernel
theorem d_Setup_addOwl_17 : decode prog_8_method_4_code 17 = .ok (.iastore, 1) := by decide +kernel
theorem d_Setup_addOwl_18 : decode prog_8_method_4_code 18 = .ok (.aload_n 0, 1) := by decide +kernel
theorem d_Setup_addOwl_19 : decode prog_8_method_4_code 19 = .ok (.dup, 1) := by decide +kernel
theorem d_Setup_addOwl_20 : decode prog_8_method_4_code 20 = .ok (.getfield 50, 3) := by decide +kernel
theorem d_Setup_addOwl_23 : decode prog_8_method_4_code 23 = .ok (.iconst 1, 1) := by decide +kernel
theorem d_Setup_addOwl_24 : decode prog_8_method_4_code 24 = .ok (.iadd, 1) := by decide +kernel
theorem d_Setup_addOwl_25 : decode prog_8_method_4_code 25 = .ok (.putfield 50, 3) := by decide +kernel
theorem d_Setup_addOwl_28 : decode prog_8_method_4_code 28 = .ok (.return_, 1) := by decide +kernel
theorem d_SetupReader_readOwls_0 : decode prog_9_method_6_code 0 = .ok (.iconst 0, 1) := by decide +kernel
theorem d_SetupReader_readOwls_1 : decode prog_9_method_6_code 1 = .ok (.istore_n 2, 1) := by decide +kernel
theorem d_SetupReader_readOwls_2 : decode prog_9_method_6_code 2 = .ok (.iload_n 2, 1) := by decide +kernel
theorem d_SetupReader_readOwls_3 : decode prog_9_method_6_code 3 = .ok (.iconst 5, 1) := by decide +kernel
theorem d_SetupReader_readOwls_4 : decode prog_9_method_6_code 4 = .ok (.if_icmp .gt 45, 3) := by decide +kernel
theorem d_SetupReader_readOwls_7 : decode prog_9_method_6_code 7 = .ok (.aload_n 0, 1) := by decide +kernel
theorem d_SetupReader_readOwls_8 : decode prog_9_method_6_code 8 = .ok (.ldc 113, 2) := by decide +kernel
theorem d_SetupReader_readOwls_10 : decode prog_9_method_6_code 10 = .ok (.invokevirtual 87, 3) := by decide +kernel
theorem d_SetupReader_readOwls_13 : decode prog_9_method_6_code 13 = .ok (.ifCond .eq 36, 3) := by decide +kernel
theorem d_SetupReader_readOwls_16 : decode prog_9_method_6_code 16 = .ok (.aload_n 0, 1) := by decide +kernel
theorem d_SetupReader_readOwls_17 : decode prog_9_method_6_code 17 = .ok (.ldc 113, 2) := by decide +kernel
theorem d_SetupReader_readOwls_19 : decode prog_9_method_6_code 19 = .ok (.iload_n 2, 1) := by decide +kernel
theorem d_SetupReader_readOwls_20 : decode prog_9_method_6_code 20 = .ok (.iconst 5, 1) := by decide +kernel
theorem d_SetupReader_readOwls_21 : decode prog_9_method_6_code 21 = .ok (.invokevirtual 91, 3) := by decide +kernel
theorem d_SetupReader_readOwls_24 : decode prog_9_method_6_code 24 = .ok (.aload_n 0, 1) := by decide +kernel
theorem d_SetupReader_readOwls_25 : decode prog_9_method_6_code 25 = .ok (.iconst 1, 1) := by decide +kernel
theorem d_SetupReader_readOwls_26 : decode prog_9_method_6_code 26 = .ok (.bipush 9, 2) := by decide +kernel
theorem d_SetupReader_readOwls_28 : decode prog_9_method_6_code 28 = .ok (.invokevirtual 64, 3) := by decide +kernel
theorem d_SetupReader_readOwls_31 : decode prog_9_method_6_code 31 = .ok (.istore_n 3, 1) := by decide +kernel
theorem d_SetupReader_readOwls_32 : decode prog_9_method_6_code 32 = .ok (.aload_n 0, 1) := by decide +kernel
theorem d_SetupReader_readOwls_33 : decode prog_9_method_6_code 33 = .ok (.bipush 59, 2) := by decide +kernel
theorem d_SetupReader_readOwls_35 : decode prog_9_method_6_code 35 = .ok (.invokevirtual 83, 3) := by decide +kernel
theorem d_SetupReader_readOwls_38 : decode prog_9_method_6_code 38 = .ok (.aload_n 1, 1) := by decide +kernel
theorem d_SetupReader_readOwls_39 : decode prog_9_method_6_code 39 = .ok (.iload_n 3, 1) := by decide +kernel
theorem d_SetupReader_readOwls_40 : decode prog_9_method_6_code 40 = .ok (.invokevirtual 115, 3) := by decide +kernel
theorem d_SetupReader_readOwls_43 : decode prog_9_method_6_code 43 = .ok (.iinc 2 1, 3) := by decide +kernel
theorem d_SetupReader_readOwls_46 : decode prog_9_method_6_code 46 = .ok (.goto (-44), 3) := by decide +kernel
theorem d_SetupReader_readOwls_49 : decode prog_9_method_6_code 49 = .ok (.return_, 1) := by decide +kernel
theorem d_Reader_seesEnd_0 : decode prog_6_method_7_code 0 = .ok (.aload_n 0, 1) := by decide +kernel
theorem d_Reader_seesEnd_1 : decode prog_6_method_7_code 1 = .ok (.getfield 11, 3) := by decide +kernel
theorem d_Reader_seesEnd_4 : decode prog_6_method_7_code 4 = .ok (.ifCond .ne 7, 3) := by decide +kernel
theorem d_Reader_seesEnd_7 : decode prog_6_method_7_code 7 = .ok (.iconst 1, 1) := by decide +kernel
theorem d_Reader_seesEnd_8 : decode prog_6_method_7_code 8 = .ok (.goto 4, 3) := by decide +kernel
theorem d_Reader_seesEnd_11 : decode prog_6_method_7_code 11 = .ok (.iconst 0, 1) := by decide +kernel
theorem d_Reader_seesEnd_12 : decode prog_6_method_7_code 12 = .ok (.ireturn, 1) := by decide +kernel
theorem d_SetupReader_readInto_0 : decode prog_9_method_2_code 0 = .ok (.aload_n 1, 1) := by decide +kernel
theorem d_SetupReader_readInto_1 : decode prog_9_method_2_code 1 = .ok (.invokevirtual 9, 3) := by decide +kernel
theorem d_SetupReader_readInto_4 : decode prog_9_method_2_code 4 = .ok (.aload_n 0, 1) := by decide +kernel
theorem d_SetupReader_readInto_5 : decode prog_9_method_2_code 5 = .ok (.invokevirtual 15, 3) := by decide +kernel
theorem d_SetupReader_readInto_8 : decode prog_9_method_2_code 8 = .ok (.aload_n 0, 1) := by decide +kernel
theorem d_SetupReader_readInto_9 : decode prog_9_method_2_code 9 = .ok (.aload_n 1, 1) := by decide +kernel
theorem d_SetupReader_readInto_10 : decode prog_9_method_2_code 10 = .ok (.invokevirtual 20, 3) := by decide +kernel
theorem d_SetupReader_readInto_13 : decode prog_9_method_2_code 13 = .ok (.aload_n 0, 1) := by decide +kernel
theorem d_SetupReader_readInto_14 : decode prog_9_method_2_code 14 = .ok (.ldc 24, 2) := by decide +kernel
theorem d_SetupReader_readInto_16 : decode prog_9_method_2_code 16 = .ok (.aload_n 1, 1) := by decide +kernel
theorem d_SetupReader_readInto_17 : decode prog_9_method_2_code 17 = .ok (.getfield 26, 3) := by decide +kernel
theorem d_SetupReader_readInto_20 : decode prog_9_method_2_code 20 = .ok (.invokevirtual 30, 3) := by decide +kernel
theorem d_SetupReader_readInto_23 : decode prog_9_method_2_code 23 = .ok (.aload_n 0, 1) := by decide +kernel
theorem d_SetupReader_readInto_24 : decode prog_9_method_2_code 24 = .ok (.ldc 34, 2) := by decide +kernel
theorem d_SetupReader_readInto_26 : decode prog_9_method_2_code 26 = .ok (.aload_n 1, 1) := by decide +kernel
theorem d_SetupReader_readInto_27 : decode prog_9_method_2_code 27 = .ok (.getfield 36, 3) := by decide +kernel
theorem d_SetupReader_readInto_30 : decode prog_9_method_2_code 30 = .ok (.invokevirtual 30, 3) := by decide +kernel
theorem d_SetupReader_readInto_33 : decode prog_9_method_2_code 33 = .ok (.aload_n 0, 1) := by decide +kernel
theorem d_SetupReader_readInto_34 : decode prog_9_method_2_code 34 = .ok (.aload_n 1, 1) := by decide +kernel
theorem d_SetupReader_readInto_35 : decode prog_9_method_2_code 35 = .ok (.invokevirtual 39, 3) := by decide +kernel
theorem d_SetupReader_readInto_38 : decode prog_9_method_2_code 38 = .ok (.aload_n 0, 1) := by decide +kernel
theorem d_SetupReader_readInto_39 : decode prog_9_method_2_code 39 = .ok (.aload_n 1, 1) := by decide +kernel
theorem d_SetupReader_readInto_40 : decode prog_9_method_2_code 40 = .ok (.invokevirtual 42, 3) := by decide +kernel
theorem d_SetupReader_readInto_43 : decode prog_9_method_2_code 43 = .ok (.aload_n 0, 1) := by decide +kernel
theorem d_SetupReader_readInto_44 : decode prog_9_method_2_code 44 = .ok (.invokevirtual 45, 3) := by decide +kernel
theorem d_SetupReader_readInto_47 : decode prog_9_method_2_code 47 = .ok (.ifCond .ne 8, 3) := by decide +kernel
