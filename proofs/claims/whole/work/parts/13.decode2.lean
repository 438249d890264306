theorem d_P_openShop_62 : decode prog_1_method_57_code 62 = .ok (.istore_n 3, 1) := by decide +kernel
theorem d_P_openShop_63 : decode prog_1_method_57_code 63 = .ok (.iload_n 3, 1) := by decide +kernel
theorem d_P_openShop_64 : decode prog_1_method_57_code 64 = .ok (.iconst 2, 1) := by decide +kernel
theorem d_P_openShop_65 : decode prog_1_method_57_code 65 = .ok (.if_icmp .ge 16, 3) := by decide +kernel
theorem d_P_openShop_68 : decode prog_1_method_57_code 68 = .ok (.aload_n 0, 1) := by decide +kernel
theorem d_P_openShop_69 : decode prog_1_method_57_code 69 = .ok (.getfield 65, 3) := by decide +kernel
theorem d_P_openShop_72 : decode prog_1_method_57_code 72 = .ok (.iload_n 3, 1) := by decide +kernel
theorem d_P_openShop_73 : decode prog_1_method_57_code 73 = .ok (.iconst 0, 1) := by decide +kernel
theorem d_P_openShop_74 : decode prog_1_method_57_code 74 = .ok (.bastore, 1) := by decide +kernel
theorem d_P_openShop_75 : decode prog_1_method_57_code 75 = .ok (.iinc 3 1, 3) := by decide +kernel
theorem d_P_openShop_78 : decode prog_1_method_57_code 78 = .ok (.goto (-15), 3) := by decide +kernel
theorem d_P_openShop_81 : decode prog_1_method_57_code 81 = .ok (.iload_n 1, 1) := by decide +kernel
theorem d_P_openShop_82 : decode prog_1_method_57_code 82 = .ok (.ireturn, 1) := by decide +kernel
theorem d_P_load_0 : decode prog_1_method_4_code 0 = .ok (.aload_n 0, 1) := by decide +kernel
theorem d_P_load_1 : decode prog_1_method_4_code 1 = .ok (.invokevirtual 98, 3) := by decide +kernel
theorem d_P_load_4 : decode prog_1_method_4_code 4 = .ok (.istore_n 1, 1) := by decide +kernel
theorem d_P_load_5 : decode prog_1_method_4_code 5 = .ok (.aload_n 0, 1) := by decide +kernel
theorem d_P_load_6 : decode prog_1_method_4_code 6 = .ok (.iload_n 1, 1) := by decide +kernel
theorem d_P_load_7 : decode prog_1_method_4_code 7 = .ok (.putfield 69, 3) := by decide +kernel
theorem d_P_load_10 : decode prog_1_method_4_code 10 = .ok (.aload_n 0, 1) := by decide +kernel
theorem d_P_load_11 : decode prog_1_method_4_code 11 = .ok (.aload_n 0, 1) := by decide +kernel
theorem d_P_load_12 : decode prog_1_method_4_code 12 = .ok (.getfield 21, 3) := by decide +kernel
theorem d_P_load_15 : decode prog_1_method_4_code 15 = .ok (.getfield 130, 3) := by decide +kernel
theorem d_P_load_18 : decode prog_1_method_4_code 18 = .ok (.putfield 73, 3) := by decide +kernel
theorem d_P_load_21 : decode prog_1_method_4_code 21 = .ok (.iload_n 1, 1) := by decide +kernel
theorem d_P_load_22 : decode prog_1_method_4_code 22 = .ok (.ireturn, 1) := by decide +kernel
theorem d_Shop_sumOfPrices_0 : decode prog_10_method_32_code 0 = .ok (.iconst 0, 1) := by decide +kernel
theorem d_Shop_sumOfPrices_1 : decode prog_10_method_32_code 1 = .ok (.istore_n 1, 1) := by decide +kernel
theorem d_Shop_sumOfPrices_2 : decode prog_10_method_32_code 2 = .ok (.iconst 0, 1) := by decide +kernel
theorem d_Shop_sumOfPrices_3 : decode prog_10_method_32_code 3 = .ok (.istore_n 2, 1) := by decide +kernel
theorem d_Shop_sumOfPrices_4 : decode prog_10_method_32_code 4 = .ok (.iload_n 2, 1) := by decide +kernel
theorem d_Shop_sumOfPrices_5 : decode prog_10_method_32_code 5 = .ok (.aload_n 0, 1) := by decide +kernel
theorem d_Shop_sumOfPrices_6 : decode prog_10_method_32_code 6 = .ok (.getfield 28, 3) := by decide +kernel
theorem d_Shop_sumOfPrices_9 : decode prog_10_method_32_code 9 = .ok (.if_icmp .ge 21, 3) := by decide +kernel
theorem d_Shop_sumOfPrices_12 : decode prog_10_method_32_code 12 = .ok (.iload_n 1, 1) := by decide +kernel
theorem d_Shop_sumOfPrices_13 : decode prog_10_method_32_code 13 = .ok (.aload_n 0, 1) := by decide +kernel
theorem d_Shop_sumOfPrices_14 : decode prog_10_method_32_code 14 = .ok (.getfield 24, 3) := by decide +kernel
theorem d_Shop_sumOfPrices_17 : decode prog_10_method_32_code 17 = .ok (.iload_n 2, 1) := by decide +kernel
theorem d_Shop_sumOfPrices_18 : decode prog_10_method_32_code 18 = .ok (.aaload, 1) := by decide +kernel
theorem d_Shop_sumOfPrices_19 : decode prog_10_method_32_code 19 = .ok (.getfield 134, 3) := by decide +kernel
theorem d_Shop_sumOfPrices_22 : decode prog_10_method_32_code 22 = .ok (.iadd, 1) := by decide +kernel
theorem d_Shop_sumOfPrices_23 : decode prog_10_method_32_code 23 = .ok (.istore_n 1, 1) := by decide +kernel
theorem d_Shop_sumOfPrices_24 : decode prog_10_method_32_code 24 = .ok (.iinc 2 1, 3) := by decide +kernel
theorem d_Shop_sumOfPrices_27 : decode prog_10_method_32_code 27 = .ok (.goto (-23), 3) := by decide +kernel
theorem d_Shop_sumOfPrices_30 : decode prog_10_method_32_code 30 = .ok (.iload_n 1, 1) := by decide +kernel
theorem d_Shop_sumOfPrices_31 : decode prog_10_method_32_code 31 = .ok (.ireturn, 1) := by decide +kernel
theorem d_P_meanPrice_0 : decode prog_1_method_39_code 0 = .ok (.aload_n 0, 1) := by decide +kernel
theorem d_P_meanPrice_1 : decode prog_1_method_39_code 1 = .ok (.getfield 47, 3) := by decide +kernel
theorem d_P_meanPrice_4 : decode prog_1_method_39_code 4 = .ok (.getfield 195, 3) := by decide +kernel
theorem d_P_meanPrice_7 : decode prog_1_method_39_code 7 = .ok (.istore_n 1, 1) := by decide +kernel
theorem d_P_meanPrice_8 : decode prog_1_method_39_code 8 = .ok (.iload_n 1, 1) := by decide +kernel
theorem d_P_meanPrice_9 : decode prog_1_method_39_code 9 = .ok (.ifCond .ne 7, 3) := by decide +kernel
theorem d_P_meanPrice_12 : decode prog_1_method_39_code 12 = .ok (.dconst 0, 1) := by decide +kernel
theorem d_P_meanPrice_13 : decode prog_1_method_39_code 13 = .ok (.goto 14, 3) := by decide +kernel
theorem d_P_meanPrice_16 : decode prog_1_method_39_code 16 = .ok (.aload_n 0, 1) := by decide +kernel
theorem d_P_meanPrice_17 : decode prog_1_method_39_code 17 = .ok (.getfield 47, 3) := by decide +kernel
theorem d_P_meanPrice_20 : decode prog_1_method_39_code 20 = .ok (.invokevirtual 278, 3) := by decide +kernel
theorem d_P_meanPrice_23 : decode prog_1_method_39_code 23 = .ok (.i2d, 1) := by decide +kernel
theorem d_P_meanPrice_24 : decode prog_1_method_39_code 24 = .ok (.iload_n 1, 1) := by decide +kernel
theorem d_P_meanPrice_25 : decode prog_1_method_39_code 25 = .ok (.i2d, 1) := by decide +kernel
theorem d_P_meanPrice_26 : decode prog_1_method_39_code 26 = .ok (.ddiv, 1) := by decide +kernel
theorem d_P_meanPrice_27 : decode prog_1_method_39_code 27 = .ok (.dreturn, 1) := by decide +kernel
theorem d_P_owlCoins_0 : decode prog_1_method_34_code 0 = .ok (.iload_n 1, 1) := by decide +kernel
theorem d_P_owlCoins_1 : decode prog_1_method_34_code 1 = .ok (.ifCond .lt 18, 3) := by decide +kernel
theorem d_P_owlCoins_4 : decode prog_1_method_34_code 4 = .ok (.iload_n 1, 1) := by decide +kernel
theorem d_P_owlCoins_5 : decode prog_1_method_34_code 5 = .ok (.aload_n 0, 1) := by decide +kernel
theorem d_P_owlCoins_6 : decode prog_1_method_34_code 6 = .ok (.getfield 35, 3) := by decide +kernel
theorem d_P_owlCoins_9 : decode prog_1_method_34_code 9 = .ok (.getfield 252, 3) := by decide +kernel
theorem d_P_owlCoins_12 : decode prog_1_method_34_code 12 = .ok (.if_icmp .ge 7, 3) := by decide +kernel
theorem d_P_owlCoins_15 : decode prog_1_method_34_code 15 = .ok (.iconst 1, 1) := by decide +kernel
theorem d_P_owlCoins_16 : decode prog_1_method_34_code 16 = .ok (.goto 4, 3) := by decide +kernel
theorem d_P_owlCoins_19 : decode prog_1_method_34_code 19 = .ok (.iconst 0, 1) := by decide +kernel
theorem d_P_owlCoins_20 : decode prog_1_method_34_code 20 = .ok (.invokestatic 178, 3) := by decide +kernel
theorem d_P_owlCoins_23 : decode prog_1_method_34_code 23 = .ok (.aload_n 0, 1) := by decide +kernel
theorem d_P_owlCoins_24 : decode prog_1_method_34_code 24 = .ok (.getfield 47, 3) := by decide +kernel
theorem d_P_owlCoins_27 : decode prog_1_method_34_code 27 = .ok (.iload_n 1, 1) := by decide +kernel
theorem d_P_owlCoins_28 : decode prog_1_method_34_code 28 = .ok (.invokevirtual 255, 3) := by decide +kernel
theorem d_P_owlCoins_31 : decode prog_1_method_34_code 31 = .ok (.getfield 264, 3) := by decide +kernel
theorem d_P_owlCoins_34 : decode prog_1_method_34_code 34 = .ok (.ireturn, 1) := by decide +kernel
theorem d_P_owlDays_0 : decode prog_1_method_33_code 0 = .ok (.iload_n 1, 1) := by decide +kernel
theorem d_P_owlDays_1 : decode prog_1_method_33_code 1 = .ok (.ifCond .lt 18, 3) := by decide +kernel
theorem d_P_owlDays_4 : decode prog_1_method_33_code 4 = .ok (.iload_n 1, 1) := by decide +kernel
theorem d_P_owlDays_5 : decode prog_1_method_33_code 5 = .ok (.aload_n 0, 1) := by decide +kernel
theorem d_P_owlDays_6 : decode prog_1_method_33_code 6 = .ok (.getfield 35, 3) := by decide +kernel
theorem d_P_owlDays_9 : decode prog_1_method_33_code 9 = .ok (.getfield 252, 3) := by decide +kernel
theorem d_P_owlDays_12 : decode prog_1_method_33_code 12 = .ok (.if_icmp .ge 7, 3) := by decide +kernel
theorem d_P_owlDays_15 : decode prog_1_method_33_code 15 = .ok (.iconst 1, 1) := by decide +kernel
theorem d_P_owlDays_16 : decode prog_1_method_33_code 16 = .ok (.goto 4, 3) := by decide +kernel
theorem d_P_owlDays_19 : decode prog_1_method_33_code 19 = .ok (.iconst 0, 1) := by decide +kernel
theorem d_P_owlDays_20 : decode prog_1_method_33_code 20 = .ok (.invokestatic 178, 3) := by decide +kernel
theorem d_P_owlDays_23 : decode prog_1_method_33_code 23 = .ok (.aload_n 0, 1) := by decide +kernel
theorem d_P_owlDays_24 : decode prog_1_method_33_code 24 = .ok (.getfield 47, 3) := by decide +kernel
theorem d_P_owlDays_27 : decode prog_1_method_33_code 27 = .ok (.iload_n 1, 1) := by decide +kernel
theorem d_P_owlDays_28 : decode prog_1_method_33_code 28 = .ok (.invokevirtual 255, 3) := by decide +kernel
theorem d_P_owlDays_31 : decode prog_1_method_33_code 31 = .ok (.getfield 259, 3) := by decide +kernel
theorem d_P_owlDays_34 : decode prog_1_method_33_code 34 = .ok (.ireturn, 1) := by decide +kernel
theorem d_P_placeCount_0 : decode prog_1_method_11_code 0 = .ok (.aload_n 0, 1) := by decide +kernel
theorem d_P_placeCount_1 : decode prog_1_method_11_code 1 = .ok (.getfield 35, 3) := by decide +kernel
theorem d_P_placeCount_4 : decode prog_1_method_11_code 4 = .ok (.getfield 161, 3) := by decide +kernel
theorem d_P_placeCount_7 : decode prog_1_method_11_code 7 = .ok (.getfield 156, 3) := by decide +kernel
theorem d_P_placeCount_10 : decode prog_1_method_11_code 10 = .ok (.ireturn, 1) := by decide +kernel
theorem d_P_placeInQueue_0 : decode prog_1_method_29_code 0 = .ok (.aload_n 0, 1) := by decide +kernel
theorem d_P_placeInQueue_1 : decode prog_1_method_29_code 1 = .ok (.getfield 47, 3) := by decide +kernel
theorem d_P_placeInQueue_4 : decode prog_1_method_29_code 4 = .ok (.iload_n 1, 1) := by decide +kernel
theorem d_P_placeInQueue_5 : decode prog_1_method_29_code 5 = .ok (.invokevirtual 240, 3) := by decide +kernel
theorem d_P_placeInQueue_8 : decode prog_1_method_29_code 8 = .ok (.invokestatic 178, 3) := by decide +kernel
theorem d_P_placeInQueue_11 : decode prog_1_method_29_code 11 = .ok (.aload_n 0, 1) := by decide +kernel
theorem d_P_placeInQueue_12 : decode prog_1_method_29_code 12 = .ok (.getfield 47, 3) := by decide +kernel
theorem d_P_placeInQueue_15 : decode prog_1_method_29_code 15 = .ok (.iload_n 1, 1) := by decide +kernel
theorem d_P_placeInQueue_16 : decode prog_1_method_29_code 16 = .ok (.invokevirtual 243, 3) := by decide +kernel
theorem d_P_placeInQueue_19 : decode prog_1_method_29_code 19 = .ok (.ireturn, 1) := by decide +kernel
theorem d_P_placeOf_0 : decode prog_1_method_21_code 0 = .ok (.aload_n 0, 1) := by decide +kernel
theorem d_P_placeOf_1 : decode prog_1_method_21_code 1 = .ok (.iload_n 1, 1) := by decide +kernel
theorem d_P_placeOf_2 : decode prog_1_method_21_code 2 = .ok (.invokevirtual 198, 3) := by decide +kernel
theorem d_P_placeOf_5 : decode prog_1_method_21_code 5 = .ok (.getfield 210, 3) := by decide +kernel
theorem d_P_placeOf_8 : decode prog_1_method_21_code 8 = .ok (.ireturn, 1) := by decide +kernel
theorem d_P_prophecyCount_0 : decode prog_1_method_18_code 0 = .ok (.aload_n 0, 1) := by decide +kernel
theorem d_P_prophecyCount_1 : decode prog_1_method_18_code 1 = .ok (.getfield 47, 3) := by decide +kernel
theorem d_P_prophecyCount_4 : decode prog_1_method_18_code 4 = .ok (.getfield 195, 3) := by decide +kernel
theorem d_P_prophecyCount_7 : decode prog_1_method_18_code 7 = .ok (.ireturn, 1) := by decide +kernel
theorem d_Shop_coinsOf_0 : decode prog_10_method_6_code 0 = .ok (.iload_n 1, 1) := by decide +kernel
theorem d_Shop_coinsOf_1 : decode prog_10_method_6_code 1 = .ok (.ifCond .lt 18, 3) := by decide +kernel
theorem d_Shop_coinsOf_4 : decode prog_10_method_6_code 4 = .ok (.iload_n 1, 1) := by decide +kernel
theorem d_Shop_coinsOf_5 : decode prog_10_method_6_code 5 = .ok (.bipush 8, 2) := by decide +kernel
theorem d_Shop_coinsOf_7 : decode prog_10_method_6_code 7 = .ok (.if_icmp .ge 12, 3) := by decide +kernel
theorem d_Shop_coinsOf_10 : decode prog_10_method_6_code 10 = .ok (.aload_n 0, 1) := by decide +kernel
theorem d_Shop_coinsOf_11 : decode prog_10_method_6_code 11 = .ok (.getfield 18, 3) := by decide +kernel
theorem d_Shop_coinsOf_14 : decode prog_10_method_6_code 14 = .ok (.iload_n 1, 1) := by decide +kernel
theorem d_Shop_coinsOf_15 : decode prog_10_method_6_code 15 = .ok (.iaload, 1) := by decide +kernel
theorem d_Shop_coinsOf_16 : decode prog_10_method_6_code 16 = .ok (.goto 4, 3) := by decide +kernel
theorem d_Shop_coinsOf_19 : decode prog_10_method_6_code 19 = .ok (.iconst 0, 1) := by decide +kernel
theorem d_Shop_coinsOf_20 : decode prog_10_method_6_code 20 = .ok (.ireturn, 1) := by decide +kernel
theorem d_P_purse_0 : decode prog_1_method_14_code 0 = .ok (.aload_n 0, 1) := by decide +kernel
theorem d_P_purse_1 : decode prog_1_method_14_code 1 = .ok (.getfield 35, 3) := by decide +kernel
theorem d_P_purse_4 : decode prog_1_method_14_code 4 = .ok (.getfield 164, 3) := by decide +kernel
theorem d_P_purse_7 : decode prog_1_method_14_code 7 = .ok (.iload_n 1, 1) := by decide +kernel
theorem d_P_purse_8 : decode prog_1_method_14_code 8 = .ok (.invokevirtual 174, 3) := by decide +kernel
theorem d_P_purse_11 : decode prog_1_method_14_code 11 = .ok (.invokestatic 178, 3) := by decide +kernel
theorem d_P_purse_14 : decode prog_1_method_14_code 14 = .ok (.aload_n 0, 1) := by decide +kernel
theorem d_P_purse_15 : decode prog_1_method_14_code 15 = .ok (.getfield 47, 3) := by decide +kernel
theorem d_P_purse_18 : decode prog_1_method_14_code 18 = .ok (.iload_n 1, 1) := by decide +kernel
theorem d_P_purse_19 : decode prog_1_method_14_code 19 = .ok (.invokevirtual 182, 3) := by decide +kernel
theorem d_P_purse_22 : decode prog_1_method_14_code 22 = .ok (.ireturn, 1) := by decide +kernel
theorem d_P_queueLength_0 : decode prog_1_method_28_code 0 = .ok (.aload_n 0, 1) := by decide +kernel
theorem d_P_queueLength_1 : decode prog_1_method_28_code 1 = .ok (.getfield 47, 3) := by decide +kernel
theorem d_P_queueLength_4 : decode prog_1_method_28_code 4 = .ok (.getfield 237, 3) := by decide +kernel
theorem d_P_queueLength_7 : decode prog_1_method_28_code 7 = .ok (.ireturn, 1) := by decide +kernel
theorem d_P_refundOf_0 : decode prog_1_method_27_code 0 = .ok (.aload_n 0, 1) := by decide +kernel
theorem d_P_refundOf_1 : decode prog_1_method_27_code 1 = .ok (.getfield 47, 3) := by decide +kernel
theorem d_P_refundOf_4 : decode prog_1_method_27_code 4 = .ok (.aload_n 0, 1) := by decide +kernel
theorem d_P_refundOf_5 : decode prog_1_method_27_code 5 = .ok (.iload_n 1, 1) := by decide +kernel
theorem d_P_refundOf_6 : decode prog_1_method_27_code 6 = .ok (.invokevirtual 198, 3) := by decide +kernel
theorem d_P_refundOf_9 : decode prog_1_method_27_code 9 = .ok (.invokevirtual 233, 3) := by decide +kernel
theorem d_P_refundOf_12 : decode prog_1_method_27_code 12 = .ok (.ireturn, 1) := by decide +kernel
theorem d_P_refundTotal_0 : decode prog_1_method_37_code 0 = .ok (.aload_n 0, 1) := by decide +kernel
theorem d_P_refundTotal_1 : decode prog_1_method_37_code 1 = .ok (.getfield 47, 3) := by decide +kernel
theorem d_P_refundTotal_4 : decode prog_1_method_37_code 4 = .ok (.getfield 275, 3) := by decide +kernel
theorem d_P_refundTotal_7 : decode prog_1_method_37_code 7 = .ok (.ireturn, 1) := by decide +kernel
theorem d_P_restore_0 : decode prog_1_method_56_code 0 = .ok (.iload_n 1, 1) := by decide +kernel
theorem d_P_restore_1 : decode prog_1_method_56_code 1 = .ok (.ifCond .lt 12, 3) := by decide +kernel
theorem d_P_restore_4 : decode prog_1_method_56_code 4 = .ok (.iload_n 1, 1) := by decide +kernel
theorem d_P_restore_5 : decode prog_1_method_56_code 5 = .ok (.iconst 2, 1) := by decide +kernel
theorem d_P_restore_6 : decode prog_1_method_56_code 6 = .ok (.if_icmp .ge 7, 3) := by decide +kernel
theorem d_P_restore_9 : decode prog_1_method_56_code 9 = .ok (.iconst 1, 1) := by decide +kernel
theorem d_P_restore_10 : decode prog_1_method_56_code 10 = .ok (.goto 4, 3) := by decide +kernel
theorem d_P_restore_13 : decode prog_1_method_56_code 13 = .ok (.iconst 0, 1) := by decide +kernel
theorem d_P_restore_14 : decode prog_1_method_56_code 14 = .ok (.invokestatic 178, 3) := by decide +kernel
theorem d_P_restore_17 : decode prog_1_method_56_code 17 = .ok (.aload_n 0, 1) := by decide +kernel
theorem d_P_restore_18 : decode prog_1_method_56_code 18 = .ok (.getfield 65, 3) := by decide +kernel
theorem d_P_restore_21 : decode prog_1_method_56_code 21 = .ok (.iload_n 1, 1) := by decide +kernel
theorem d_P_restore_22 : decode prog_1_method_56_code 22 = .ok (.baload, 1) := by decide +kernel
theorem d_P_restore_23 : decode prog_1_method_56_code 23 = .ok (.ifCond .ne 14, 3) := by decide +kernel
theorem d_P_restore_26 : decode prog_1_method_56_code 26 = .ok (.new 225, 3) := by decide +kernel
theorem d_P_restore_29 : decode prog_1_method_56_code 29 = .ok (.dup, 1) := by decide +kernel
theorem d_P_restore_30 : decode prog_1_method_56_code 30 = .ok (.ldc_w 354, 3) := by decide +kernel
theorem d_P_restore_33 : decode prog_1_method_56_code 33 = .ok (.invokespecial 229, 3) := by decide +kernel
theorem d_P_restore_36 : decode prog_1_method_56_code 36 = .ok (.athrow, 1) := by decide +kernel
theorem d_P_restore_37 : decode prog_1_method_56_code 37 = .ok (.aload_n 0, 1) := by decide +kernel
theorem d_P_restore_38 : decode prog_1_method_56_code 38 = .ok (.getfield 47, 3) := by decide +kernel
theorem d_P_restore_41 : decode prog_1_method_56_code 41 = .ok (.aload_n 0, 1) := by decide +kernel
theorem d_P_restore_42 : decode prog_1_method_56_code 42 = .ok (.getfield 61, 3) := by decide +kernel
theorem d_P_restore_45 : decode prog_1_method_56_code 45 = .ok (.iload_n 1, 1) := by decide +kernel
theorem d_P_restore_46 : decode prog_1_method_56_code 46 = .ok (.aaload, 1) := by decide +kernel
theorem d_P_restore_47 : decode prog_1_method_56_code 47 = .ok (.invokevirtual 296, 3) := by decide +kernel
theorem d_P_restore_50 : decode prog_1_method_56_code 50 = .ok (.aload_n 0, 1) := by decide +kernel
theorem d_P_restore_51 : decode prog_1_method_56_code 51 = .ok (.getfield 57, 3) := by decide +kernel
theorem d_P_restore_54 : decode prog_1_method_56_code 54 = .ok (.iconst 0, 1) := by decide +kernel
theorem d_P_restore_55 : decode prog_1_method_56_code 55 = .ok (.putfield 348, 3) := by decide +kernel
theorem d_P_restore_58 : decode prog_1_method_56_code 58 = .ok (.aload_n 0, 1) := by decide +kernel
theorem d_P_restore_59 : decode prog_1_method_56_code 59 = .ok (.getfield 47, 3) := by decide +kernel
theorem d_P_restore_62 : decode prog_1_method_56_code 62 = .ok (.getfield 146, 3) := by decide +kernel
theorem d_P_restore_65 : decode prog_1_method_56_code 65 = .ok (.ireturn, 1) := by decide +kernel
theorem d_Script_addStep_0 : decode prog_7_method_5_code 0 = .ok (.aload_n 0, 1) := by decide +kernel
theorem d_Script_addStep_1 : decode prog_7_method_5_code 1 = .ok (.getfield 17, 3) := by decide +kernel
theorem d_Script_addStep_4 : decode prog_7_method_5_code 4 = .ok (.bipush 60, 2) := by decide +kernel
theorem d_Script_addStep_6 : decode prog_7_method_5_code 6 = .ok (.if_icmp .ge 10, 3) := by decide +kernel
theorem d_Script_addStep_9 : decode prog_7_method_5_code 9 = .ok (.aload_n 0, 1) := by decide +kernel
theorem d_Script_addStep_10 : decode prog_7_method_5_code 10 = .ok (.getfield 17, 3) := by decide +kernel
theorem d_Script_addStep_13 : decode prog_7_method_5_code 13 = .ok (.goto 5, 3) := by decide +kernel
theorem d_Script_addStep_16 : decode prog_7_method_5_code 16 = .ok (.bipush 59, 2) := by decide +kernel
theorem d_Script_addStep_18 : decode prog_7_method_5_code 18 = .ok (.istore_n 2, 1) := by decide +kernel
theorem d_Script_addStep_19 : decode prog_7_method_5_code 19 = .ok (.aload_n 0, 1) := by decide +kernel
theorem d_Script_addStep_20 : decode prog_7_method_5_code 20 = .ok (.getfield 13, 3) := by decide +kernel
theorem d_Script_addStep_23 : decode prog_7_method_5_code 23 = .ok (.iload_n 2, 1) := by decide +kernel
theorem d_Script_addStep_24 : decode prog_7_method_5_code 24 = .ok (.aaload, 1) := by decide +kernel
theorem d_Script_addStep_25 : decode prog_7_method_5_code 25 = .ok (.iload_n 1, 1) := by decide +kernel
theorem d_Script_addStep_26 : decode prog_7_method_5_code 26 = .ok (.putfield 106, 3) := by decide +kernel
theorem d_Script_addStep_29 : decode prog_7_method_5_code 29 = .ok (.aload_n 0, 1) := by decide +kernel
theorem d_Script_addStep_30 : decode prog_7_method_5_code 30 = .ok (.iload_n 2, 1) := by decide +kernel
theorem d_Script_addStep_31 : decode prog_7_method_5_code 31 = .ok (.iconst 1, 1) := by decide +kernel
theorem d_Script_addStep_32 : decode prog_7_method_5_code 32 = .ok (.iadd, 1) := by decide +kernel
theorem d_Script_addStep_33 : decode prog_7_method_5_code 33 = .ok (.putfield 17, 3) := by decide +kernel
theorem d_Script_addStep_36 : decode prog_7_method_5_code 36 = .ok (.aload_n 0, 1) := by decide +kernel
theorem d_Script_addStep_37 : decode prog_7_method_5_code 37 = .ok (.getfield 13, 3) := by decide +kernel
theorem d_Script_addStep_40 : decode prog_7_method_5_code 40 = .ok (.iload_n 2, 1) := by decide +kernel
theorem d_Script_addStep_41 : decode prog_7_method_5_code 41 = .ok (.aaload, 1) := by decide +kernel
theorem d_Script_addStep_42 : decode prog_7_method_5_code 42 = .ok (.areturn, 1) := by decide +kernel
theorem d_Script_stepAt_0 : decode prog_7_method_11_code 0 = .ok (.aload_n 0, 1) := by decide +kernel
theorem d_Script_stepAt_1 : decode prog_7_method_11_code 1 = .ok (.getfield 13, 3) := by decide +kernel
theorem d_Script_stepAt_4 : decode prog_7_method_11_code 4 = .ok (.iload_n 1, 1) := by decide +kernel
theorem d_Script_stepAt_5 : decode prog_7_method_11_code 5 = .ok (.ifCond .lt 13, 3) := by decide +kernel
theorem d_Script_stepAt_8 : decode prog_7_method_11_code 8 = .ok (.iload_n 1, 1) := by decide +kernel
theorem d_Script_stepAt_9 : decode prog_7_method_11_code 9 = .ok (.bipush 60, 2) := by decide +kernel
theorem d_Script_stepAt_11 : decode prog_7_method_11_code 11 = .ok (.if_icmp .ge 7, 3) := by decide +kernel
theorem d_Script_stepAt_14 : decode prog_7_method_11_code 14 = .ok (.iload_n 1, 1) := by decide +kernel
theorem d_Script_stepAt_15 : decode prog_7_method_11_code 15 = .ok (.goto 4, 3) := by decide +kernel
theorem d_Script_stepAt_18 : decode prog_7_method_11_code 18 = .ok (.iconst 0, 1) := by decide +kernel
theorem d_Script_stepAt_19 : decode prog_7_method_11_code 19 = .ok (.aaload, 1) := by decide +kernel
theorem d_Script_stepAt_20 : decode prog_7_method_11_code 20 = .ok (.areturn, 1) := by decide +kernel
theorem d_Script_closeRepeat_0 : decode prog_7_method_10_code 0 = .ok (.aload_n 0, 1) := by decide +kernel
theorem d_Script_closeRepeat_1 : decode prog_7_method_10_code 1 = .ok (.bipush 41, 2) := by decide +kernel
theorem d_Script_closeRepeat_3 : decode prog_7_method_10_code 3 = .ok (.invokevirtual 87, 3) := by decide +kernel
theorem d_Script_closeRepeat_6 : decode prog_7_method_10_code 6 = .ok (.aload_n 0, 1) := by decide +kernel
theorem d_Script_closeRepeat_7 : decode prog_7_method_10_code 7 = .ok (.bipush 59, 2) := by decide +kernel
theorem d_Script_closeRepeat_9 : decode prog_7_method_10_code 9 = .ok (.invokevirtual 87, 3) := by decide +kernel
theorem d_Script_closeRepeat_12 : decode prog_7_method_10_code 12 = .ok (.aload_n 0, 1) := by decide +kernel
theorem d_Script_closeRepeat_13 : decode prog_7_method_10_code 13 = .ok (.getfield 28, 3) := by decide +kernel
theorem d_Script_closeRepeat_16 : decode prog_7_method_10_code 16 = .ok (.ifCond .le 46, 3) := by decide +kernel
theorem d_Script_closeRepeat_19 : decode prog_7_method_10_code 19 = .ok (.aload_n 0, 1) := by decide +kernel
theorem d_Script_closeRepeat_20 : decode prog_7_method_10_code 20 = .ok (.dup, 1) := by decide +kernel
theorem d_Script_closeRepeat_21 : decode prog_7_method_10_code 21 = .ok (.getfield 28, 3) := by decide +kernel
theorem d_Script_closeRepeat_24 : decode prog_7_method_10_code 24 = .ok (.iconst 1, 1) := by decide +kernel
theorem d_Script_closeRepeat_25 : decode prog_7_method_10_code 25 = .ok (.isub, 1) := by decide +kernel
theorem d_Script_closeRepeat_26 : decode prog_7_method_10_code 26 = .ok (.putfield 28, 3) := by decide +kernel
theorem d_Script_closeRepeat_29 : decode prog_7_method_10_code 29 = .ok (.aload_n 0, 1) := by decide +kernel
theorem d_Script_closeRepeat_30 : decode prog_7_method_10_code 30 = .ok (.getfield 24, 3) := by decide +kernel
theorem d_Script_closeRepeat_33 : decode prog_7_method_10_code 33 = .ok (.aload_n 0, 1) := by decide +kernel
theorem d_Script_closeRepeat_34 : decode prog_7_method_10_code 34 = .ok (.getfield 28, 3) := by decide +kernel
theorem d_Script_closeRepeat_37 : decode prog_7_method_10_code 37 = .ok (.iaload, 1) := by decide +kernel
theorem d_Script_closeRepeat_38 : decode prog_7_method_10_code 38 = .ok (.istore_n 1, 1) := by decide +kernel
theorem d_Script_closeRepeat_39 : decode prog_7_method_10_code 39 = .ok (.aload_n 0, 1) := by decide +kernel
theorem d_Script_closeRepeat_40 : decode prog_7_method_10_code 40 = .ok (.iconst 5, 1) := by decide +kernel
theorem d_Script_closeRepeat_41 : decode prog_7_method_10_code 41 = .ok (.invokevirtual 102, 3) := by decide +kernel
theorem d_Script_closeRepeat_44 : decode prog_7_method_10_code 44 = .ok (.iload_n 1, 1) := by decide +kernel
theorem d_Script_closeRepeat_45 : decode prog_7_method_10_code 45 = .ok (.putfield 160, 3) := by decide +kernel
theorem d_Script_closeRepeat_48 : decode prog_7_method_10_code 48 = .ok (.aload_n 0, 1) := by decide +kernel
theorem d_Script_closeRepeat_49 : decode prog_7_method_10_code 49 = .ok (.iload_n 1, 1) := by decide +kernel
theorem d_Script_closeRepeat_50 : decode prog_7_method_10_code 50 = .ok (.invokevirtual 163, 3) := by decide +kernel
theorem d_Script_closeRepeat_53 : decode prog_7_method_10_code 53 = .ok (.aload_n 0, 1) := by decide +kernel
theorem d_Script_closeRepeat_54 : decode prog_7_method_10_code 54 = .ok (.getfield 17, 3) := by decide +kernel
theorem d_Script_closeRepeat_57 : decode prog_7_method_10_code 57 = .ok (.iconst 1, 1) := by decide +kernel
theorem d_Script_closeRepeat_58 : decode prog_7_method_10_code 58 = .ok (.isub, 1) := by decide +kernel
theorem d_Script_closeRepeat_59 : decode prog_7_method_10_code 59 = .ok (.putfield 160, 3) := by decide +kernel
theorem d_Script_closeRepeat_62 : decode prog_7_method_10_code 62 = .ok (.return_, 1) := by decide +kernel
theorem d_Script_addCommand_0 : decode prog_7_method_4_code 0 = .ok (.aload_n 0, 1) := by decide +kernel
theorem d_Script_addCommand_1 : decode prog_7_method_4_code 1 = .ok (.aload_n 1, 1) := by decide +kernel
theorem d_Script_addCommand_2 : decode prog_7_method_4_code 2 = .ok (.aload_n 0, 1) := by decide +kernel
theorem d_Script_addCommand_3 : decode prog_7_method_4_code 3 = .ok (.getfield 21, 3) := by decide +kernel
theorem d_Script_addCommand_6 : decode prog_7_method_4_code 6 = .ok (.bipush 30, 2) := by decide +kernel
theorem d_Script_addCommand_8 : decode prog_7_method_4_code 8 = .ok (.invokevirtual 98, 3) := by decide +kernel
theorem d_Script_addCommand_11 : decode prog_7_method_4_code 11 = .ok (.aload_n 0, 1) := by decide +kernel
theorem d_Script_addCommand_12 : decode prog_7_method_4_code 12 = .ok (.dup, 1) := by decide +kernel
theorem d_Script_addCommand_13 : decode prog_7_method_4_code 13 = .ok (.getfield 21, 3) := by decide +kernel
theorem d_Script_addCommand_16 : decode prog_7_method_4_code 16 = .ok (.iconst 1, 1) := by decide +kernel
theorem d_Script_addCommand_17 : decode prog_7_method_4_code 17 = .ok (.iadd, 1) := by decide +kernel
theorem d_Script_addCommand_18 : decode prog_7_method_4_code 18 = .ok (.putfield 21, 3) := by decide +kernel
theorem d_Script_addCommand_21 : decode prog_7_method_4_code 21 = .ok (.aload_n 0, 1) := by decide +kernel
theorem d_Script_addCommand_22 : decode prog_7_method_4_code 22 = .ok (.iload_n 2, 1) := by decide +kernel
theorem d_Script_addCommand_23 : decode prog_7_method_4_code 23 = .ok (.invokevirtual 102, 3) := by decide +kernel
theorem d_Script_addCommand_26 : decode prog_7_method_4_code 26 = .ok (.areturn, 1) := by decide +kernel
theorem d_Reader_takeName_0 : decode prog_6_method_15_code 0 = .ok (.aload_n 1, 1) := by decide +kernel
theorem d_Reader_takeName_1 : decode prog_6_method_15_code 1 = .ok (.aload_n 0, 1) := by decide +kernel
theorem d_Reader_takeName_2 : decode prog_6_method_15_code 2 = .ok (.invokevirtual 83, 3) := by decide +kernel
theorem d_Reader_takeName_5 : decode prog_6_method_15_code 5 = .ok (.invokevirtual 86, 3) := by decide +kernel
theorem d_Reader_takeName_8 : decode prog_6_method_15_code 8 = .ok (.istore_n 2, 1) := by decide +kernel
theorem d_Reader_takeName_9 : decode prog_6_method_15_code 9 = .ok (.iload_n 2, 1) := by decide +kernel
theorem d_Reader_takeName_10 : decode prog_6_method_15_code 10 = .ok (.iconst (-1), 1) := by decide +kernel
theorem d_Reader_takeName_11 : decode prog_6_method_15_code 11 = .ok (.if_icmp .ne 8, 3) := by decide +kernel
theorem d_Reader_takeName_14 : decode prog_6_method_15_code 14 = .ok (.aload_n 0, 1) := by decide +kernel
theorem d_Reader_takeName_15 : decode prog_6_method_15_code 15 = .ok (.iconst 3, 1) := by decide +kernel
theorem d_Reader_takeName_16 : decode prog_6_method_15_code 16 = .ok (.invokevirtual 64, 3) := by decide +kernel
theorem d_Reader_takeName_19 : decode prog_6_method_15_code 19 = .ok (.aload_n 0, 1) := by decide +kernel
theorem d_Reader_takeName_20 : decode prog_6_method_15_code 20 = .ok (.getfield 21, 3) := by decide +kernel
theorem d_Reader_takeName_23 : decode prog_6_method_15_code 23 = .ok (.ifCond .ne 7, 3) := by decide +kernel
theorem d_Reader_takeName_26 : decode prog_6_method_15_code 26 = .ok (.aload_n 0, 1) := by decide +kernel
theorem d_Reader_takeName_27 : decode prog_6_method_15_code 27 = .ok (.invokevirtual 31, 3) := by decide +kernel
theorem d_Reader_takeName_30 : decode prog_6_method_15_code 30 = .ok (.iload_n 2, 1) := by decide +kernel
theorem d_Reader_takeName_31 : decode prog_6_method_15_code 31 = .ok (.ireturn, 1) := by decide +kernel
theorem d_Script_takeProphecyKind_0 : decode prog_7_method_7_code 0 = .ok (.aload_n 0, 1) := by decide +kernel
theorem d_Script_takeProphecyKind_1 : decode prog_7_method_7_code 1 = .ok (.ldc 150, 2) := by decide +kernel
theorem d_Script_takeProphecyKind_3 : decode prog_7_method_7_code 3 = .ok (.invokevirtual 61, 3) := by decide +kernel
theorem d_Script_takeProphecyKind_6 : decode prog_7_method_7_code 6 = .ok (.ifCond .eq 11, 3) := by decide +kernel
theorem d_Script_takeProphecyKind_9 : decode prog_7_method_7_code 9 = .ok (.aload_n 0, 1) := by decide +kernel
theorem d_Script_takeProphecyKind_10 : decode prog_7_method_7_code 10 = .ok (.ldc 150, 2) := by decide +kernel
theorem d_Script_takeProphecyKind_12 : decode prog_7_method_7_code 12 = .ok (.invokevirtual 152, 3) := by decide +kernel
theorem d_Script_takeProphecyKind_15 : decode prog_7_method_7_code 15 = .ok (.iconst 1, 1) := by decide +kernel
theorem d_Script_takeProphecyKind_16 : decode prog_7_method_7_code 16 = .ok (.ireturn, 1) := by decide +kernel
theorem d_Script_takeProphecyKind_17 : decode prog_7_method_7_code 17 = .ok (.aload_n 0, 1) := by decide +kernel
theorem d_Script_takeProphecyKind_18 : decode prog_7_method_7_code 18 = .ok (.ldc 156, 2) := by decide +kernel
theorem d_Script_takeProphecyKind_20 : decode prog_7_method_7_code 20 = .ok (.invokevirtual 61, 3) := by decide +kernel
theorem d_Script_takeProphecyKind_23 : decode prog_7_method_7_code 23 = .ok (.ifCond .eq 11, 3) := by decide +kernel
theorem d_Script_takeProphecyKind_26 : decode prog_7_method_7_code 26 = .ok (.aload_n 0, 1) := by decide +kernel
theorem d_Script_takeProphecyKind_27 : decode prog_7_method_7_code 27 = .ok (.ldc 156, 2) := by decide +kernel
theorem d_Script_takeProphecyKind_29 : decode prog_7_method_7_code 29 = .ok (.invokevirtual 152, 3) := by decide +kernel
theorem d_Script_takeProphecyKind_32 : decode prog_7_method_7_code 32 = .ok (.iconst 2, 1) := by decide +kernel
theorem d_Script_takeProphecyKind_33 : decode prog_7_method_7_code 33 = .ok (.ireturn, 1) := by decide +kernel
theorem d_Script_takeProphecyKind_34 : decode prog_7_method_7_code 34 = .ok (.aload_n 0, 1) := by decide +kernel
theorem d_Script_takeProphecyKind_35 : decode prog_7_method_7_code 35 = .ok (.ldc 158, 2) := by decide +kernel
theorem d_Script_takeProphecyKind_37 : decode prog_7_method_7_code 37 = .ok (.invokevirtual 152, 3) := by decide +kernel
theorem d_Script_takeProphecyKind_40 : decode prog_7_method_7_code 40 = .ok (.iconst 0, 1) := by decide +kernel
theorem d_Script_takeProphecyKind_41 : decode prog_7_method_7_code 41 = .ok (.ireturn, 1) := by decide +kernel
theorem d_Script_readSell_0 : decode prog_7_method_6_code 0 = .ok (.aload_n 1, 1) := by decide +kernel
theorem d_Script_readSell_1 : decode prog_7_method_6_code 1 = .ok (.aload_n 0, 1) := by decide +kernel
theorem d_Script_readSell_2 : decode prog_7_method_6_code 2 = .ok (.aload_n 2, 1) := by decide +kernel
theorem d_Script_readSell_3 : decode prog_7_method_6_code 3 = .ok (.getfield 109, 3) := by decide +kernel
theorem d_Script_readSell_6 : decode prog_7_method_6_code 6 = .ok (.invokevirtual 115, 3) := by decide +kernel
theorem d_Script_readSell_9 : decode prog_7_method_6_code 9 = .ok (.putfield 119, 3) := by decide +kernel
theorem d_Script_readSell_12 : decode prog_7_method_6_code 12 = .ok (.aload_n 1, 1) := by decide +kernel
theorem d_Script_readSell_13 : decode prog_7_method_6_code 13 = .ok (.aload_n 0, 1) := by decide +kernel
theorem d_Script_readSell_14 : decode prog_7_method_6_code 14 = .ok (.invokevirtual 122, 3) := by decide +kernel
theorem d_Script_readSell_17 : decode prog_7_method_6_code 17 = .ok (.putfield 126, 3) := by decide +kernel
theorem d_Script_readSell_20 : decode prog_7_method_6_code 20 = .ok (.aload_n 1, 1) := by decide +kernel
theorem d_Script_readSell_21 : decode prog_7_method_6_code 21 = .ok (.aload_n 0, 1) := by decide +kernel
theorem d_Script_readSell_22 : decode prog_7_method_6_code 22 = .ok (.aload_n 2, 1) := by decide +kernel
theorem d_Script_readSell_23 : decode prog_7_method_6_code 23 = .ok (.getfield 129, 3) := by decide +kernel
theorem d_Script_readSell_26 : decode prog_7_method_6_code 26 = .ok (.invokevirtual 115, 3) := by decide +kernel
theorem d_Script_readSell_29 : decode prog_7_method_6_code 29 = .ok (.putfield 132, 3) := by decide +kernel
theorem d_Script_readSell_32 : decode prog_7_method_6_code 32 = .ok (.aload_n 1, 1) := by decide +kernel
theorem d_Script_readSell_33 : decode prog_7_method_6_code 33 = .ok (.aload_n 1, 1) := by decide +kernel
theorem d_Script_readSell_34 : decode prog_7_method_6_code 34 = .ok (.getfield 126, 3) := by decide +kernel
theorem d_Script_readSell_37 : decode prog_7_method_6_code 37 = .ok (.iconst 1, 1) := by decide +kernel
theorem d_Script_readSell_38 : decode prog_7_method_6_code 38 = .ok (.if_icmp .ne 7, 3) := by decide +kernel
theorem d_Script_readSell_41 : decode prog_7_method_6_code 41 = .ok (.iconst (-1), 1) := by decide +kernel
theorem d_Script_readSell_42 : decode prog_7_method_6_code 42 = .ok (.goto 11, 3) := by decide +kernel
theorem d_Script_readSell_45 : decode prog_7_method_6_code 45 = .ok (.aload_n 0, 1) := by decide +kernel
theorem d_Script_readSell_46 : decode prog_7_method_6_code 46 = .ok (.aload_n 2, 1) := by decide +kernel
theorem d_Script_readSell_47 : decode prog_7_method_6_code 47 = .ok (.getfield 135, 3) := by decide +kernel
theorem d_Script_readSell_50 : decode prog_7_method_6_code 50 = .ok (.invokevirtual 115, 3) := by decide +kernel
theorem d_Script_readSell_53 : decode prog_7_method_6_code 53 = .ok (.putfield 138, 3) := by decide +kernel
theorem d_Script_readSell_56 : decode prog_7_method_6_code 56 = .ok (.aload_n 1, 1) := by decide +kernel
theorem d_Script_readSell_57 : decode prog_7_method_6_code 57 = .ok (.aload_n 0, 1) := by decide +kernel
theorem d_Script_readSell_58 : decode prog_7_method_6_code 58 = .ok (.iconst 0, 1) := by decide +kernel
theorem d_Script_readSell_59 : decode prog_7_method_6_code 59 = .ok (.bipush 99, 2) := by decide +kernel
theorem d_Script_readSell_61 : decode prog_7_method_6_code 61 = .ok (.invokevirtual 80, 3) := by decide +kernel
theorem d_Script_readSell_64 : decode prog_7_method_6_code 64 = .ok (.putfield 141, 3) := by decide +kernel
theorem d_Script_readSell_67 : decode prog_7_method_6_code 67 = .ok (.aload_n 1, 1) := by decide +kernel
theorem d_Script_readSell_68 : decode prog_7_method_6_code 68 = .ok (.aload_n 0, 1) := by decide +kernel
theorem d_Script_readSell_69 : decode prog_7_method_6_code 69 = .ok (.iconst 1, 1) := by decide +kernel
theorem d_Script_readSell_70 : decode prog_7_method_6_code 70 = .ok (.bipush 60, 2) := by decide +kernel
theorem d_Script_readSell_72 : decode prog_7_method_6_code 72 = .ok (.invokevirtual 80, 3) := by decide +kernel
theorem d_Script_readSell_75 : decode prog_7_method_6_code 75 = .ok (.putfield 144, 3) := by decide +kernel
theorem d_Script_readSell_78 : decode prog_7_method_6_code 78 = .ok (.aload_n 1, 1) := by decide +kernel
theorem d_Script_readSell_79 : decode prog_7_method_6_code 79 = .ok (.aload_n 0, 1) := by decide +kernel
theorem d_Script_readSell_80 : decode prog_7_method_6_code 80 = .ok (.iconst 1, 1) := by decide +kernel
theorem d_Script_readSell_81 : decode prog_7_method_6_code 81 = .ok (.sipush 999, 3) := by decide +kernel
theorem d_Script_readSell_84 : decode prog_7_method_6_code 84 = .ok (.invokevirtual 80, 3) := by decide +kernel
theorem d_Script_readSell_87 : decode prog_7_method_6_code 87 = .ok (.putfield 147, 3) := by decide +kernel
theorem d_Script_readSell_90 : decode prog_7_method_6_code 90 = .ok (.aload_n 0, 1) := by decide +kernel
theorem d_Script_readSell_91 : decode prog_7_method_6_code 91 = .ok (.bipush 59, 2) := by decide +kernel
theorem d_Script_readSell_93 : decode prog_7_method_6_code 93 = .ok (.invokevirtual 87, 3) := by decide +kernel
theorem d_Script_readSell_96 : decode prog_7_method_6_code 96 = .ok (.return_, 1) := by decide +kernel
theorem d_Script_readHappen_0 : decode prog_7_method_8_code 0 = .ok (.aload_n 1, 1) := by decide +kernel
theorem d_Script_readHappen_1 : decode prog_7_method_8_code 1 = .ok (.aload_n 0, 1) := by decide +kernel
theorem d_Script_readHappen_2 : decode prog_7_method_8_code 2 = .ok (.aload_n 2, 1) := by decide +kernel
theorem d_Script_readHappen_3 : decode prog_7_method_8_code 3 = .ok (.getfield 129, 3) := by decide +kernel
theorem d_Script_readHappen_6 : decode prog_7_method_8_code 6 = .ok (.invokevirtual 115, 3) := by decide +kernel
theorem d_Script_readHappen_9 : decode prog_7_method_8_code 9 = .ok (.putfield 132, 3) := by decide +kernel
theorem d_Script_readHappen_12 : decode prog_7_method_8_code 12 = .ok (.aload_n 1, 1) := by decide +kernel
theorem d_Script_readHappen_13 : decode prog_7_method_8_code 13 = .ok (.aload_n 0, 1) := by decide +kernel
theorem d_Script_readHappen_14 : decode prog_7_method_8_code 14 = .ok (.aload_n 2, 1) := by decide +kernel
theorem d_Script_readHappen_15 : decode prog_7_method_8_code 15 = .ok (.getfield 135, 3) := by decide +kernel
theorem d_Script_readHappen_18 : decode prog_7_method_8_code 18 = .ok (.invokevirtual 115, 3) := by decide +kernel
theorem d_Script_readHappen_21 : decode prog_7_method_8_code 21 = .ok (.putfield 138, 3) := by decide +kernel
theorem d_Script_readHappen_24 : decode prog_7_method_8_code 24 = .ok (.aload_n 0, 1) := by decide +kernel
theorem d_Script_readHappen_25 : decode prog_7_method_8_code 25 = .ok (.bipush 59, 2) := by decide +kernel
theorem d_Script_readHappen_27 : decode prog_7_method_8_code 27 = .ok (.invokevirtual 87, 3) := by decide +kernel
theorem d_Script_readHappen_30 : decode prog_7_method_8_code 30 = .ok (.return_, 1) := by decide +kernel
theorem d_Script_openRepeat_0 : decode prog_7_method_9_code 0 = .ok (.aload_n 0, 1) := by decide +kernel
theorem d_Script_openRepeat_1 : decode prog_7_method_9_code 1 = .ok (.bipush 40, 2) := by decide +kernel
theorem d_Script_openRepeat_3 : decode prog_7_method_9_code 3 = .ok (.invokevirtual 44, 3) := by decide +kernel
theorem d_Script_openRepeat_6 : decode prog_7_method_9_code 6 = .ok (.ifCond .eq 16, 3) := by decide +kernel
theorem d_Script_openRepeat_9 : decode prog_7_method_9_code 9 = .ok (.aload_n 0, 1) := by decide +kernel
theorem d_Script_openRepeat_10 : decode prog_7_method_9_code 10 = .ok (.getfield 28, 3) := by decide +kernel
theorem d_Script_openRepeat_13 : decode prog_7_method_9_code 13 = .ok (.iconst 2, 1) := by decide +kernel
theorem d_Script_openRepeat_14 : decode prog_7_method_9_code 14 = .ok (.if_icmp .lt 8, 3) := by decide +kernel
theorem d_Script_openRepeat_17 : decode prog_7_method_9_code 17 = .ok (.aload_n 0, 1) := by decide +kernel
theorem d_Script_openRepeat_18 : decode prog_7_method_9_code 18 = .ok (.iconst 4, 1) := by decide +kernel
theorem d_Script_openRepeat_19 : decode prog_7_method_9_code 19 = .ok (.invokevirtual 55, 3) := by decide +kernel
theorem d_Script_openRepeat_22 : decode prog_7_method_9_code 22 = .ok (.aload_n 0, 1) := by decide +kernel
theorem d_Script_openRepeat_23 : decode prog_7_method_9_code 23 = .ok (.bipush 40, 2) := by decide +kernel
theorem d_Script_openRepeat_25 : decode prog_7_method_9_code 25 = .ok (.invokevirtual 87, 3) := by decide +kernel
theorem d_Script_openRepeat_28 : decode prog_7_method_9_code 28 = .ok (.aload_n 0, 1) := by decide +kernel
theorem d_Script_openRepeat_29 : decode prog_7_method_9_code 29 = .ok (.getfield 37, 3) := by decide +kernel
theorem d_Script_openRepeat_32 : decode prog_7_method_9_code 32 = .ok (.ifCond .ne 36, 3) := by decide +kernel
theorem d_Script_openRepeat_35 : decode prog_7_method_9_code 35 = .ok (.aload_n 0, 1) := by decide +kernel
theorem d_Script_openRepeat_36 : decode prog_7_method_9_code 36 = .ok (.getfield 28, 3) := by decide +kernel
theorem d_Script_openRepeat_39 : decode prog_7_method_9_code 39 = .ok (.iconst 2, 1) := by decide +kernel
theorem d_Script_openRepeat_40 : decode prog_7_method_9_code 40 = .ok (.if_icmp .ge 28, 3) := by decide +kernel
theorem d_Script_openRepeat_43 : decode prog_7_method_9_code 43 = .ok (.aload_n 0, 1) := by decide +kernel
theorem d_Script_openRepeat_44 : decode prog_7_method_9_code 44 = .ok (.getfield 24, 3) := by decide +kernel
theorem d_Script_openRepeat_47 : decode prog_7_method_9_code 47 = .ok (.aload_n 0, 1) := by decide +kernel
theorem d_Script_openRepeat_48 : decode prog_7_method_9_code 48 = .ok (.getfield 28, 3) := by decide +kernel
theorem d_Script_openRepeat_51 : decode prog_7_method_9_code 51 = .ok (.aload_n 0, 1) := by decide +kernel
theorem d_Script_openRepeat_52 : decode prog_7_method_9_code 52 = .ok (.getfield 17, 3) := by decide +kernel
theorem d_Script_openRepeat_55 : decode prog_7_method_9_code 55 = .ok (.iconst 1, 1) := by decide +kernel
theorem d_Script_openRepeat_56 : decode prog_7_method_9_code 56 = .ok (.isub, 1) := by decide +kernel
theorem d_Script_openRepeat_57 : decode prog_7_method_9_code 57 = .ok (.iastore, 1) := by decide +kernel
theorem d_Script_openRepeat_58 : decode prog_7_method_9_code 58 = .ok (.aload_n 0, 1) := by decide +kernel
theorem d_Script_openRepeat_59 : decode prog_7_method_9_code 59 = .ok (.dup, 1) := by decide +kernel
theorem d_Script_openRepeat_60 : decode prog_7_method_9_code 60 = .ok (.getfield 28, 3) := by decide +kernel
theorem d_Script_openRepeat_63 : decode prog_7_method_9_code 63 = .ok (.iconst 1, 1) := by decide +kernel
theorem d_Script_openRepeat_64 : decode prog_7_method_9_code 64 = .ok (.iadd, 1) := by decide +kernel
theorem d_Script_openRepeat_65 : decode prog_7_method_9_code 65 = .ok (.putfield 28, 3) := by decide +kernel
theorem d_Script_openRepeat_68 : decode prog_7_method_9_code 68 = .ok (.return_, 1) := by decide +kernel
theorem d_Script_readCommand_0 : decode prog_7_method_3_code 0 = .ok (.aload_n 0, 1) := by decide +kernel
theorem d_Script_readCommand_1 : decode prog_7_method_3_code 1 = .ok (.ldc 59, 2) := by decide +kernel
theorem d_Script_readCommand_3 : decode prog_7_method_3_code 3 = .ok (.invokevirtual 61, 3) := by decide +kernel
theorem d_Script_readCommand_6 : decode prog_7_method_3_code 6 = .ok (.ifCond .eq 18, 3) := by decide +kernel
theorem d_Script_readCommand_9 : decode prog_7_method_3_code 9 = .ok (.aload_n 0, 1) := by decide +kernel
theorem d_Script_readCommand_10 : decode prog_7_method_3_code 10 = .ok (.aload_n 0, 1) := by decide +kernel
theorem d_Script_readCommand_11 : decode prog_7_method_3_code 11 = .ok (.ldc 59, 2) := by decide +kernel
theorem d_Script_readCommand_13 : decode prog_7_method_3_code 13 = .ok (.iconst 0, 1) := by decide +kernel
theorem d_Script_readCommand_14 : decode prog_7_method_3_code 14 = .ok (.invokevirtual 65, 3) := by decide +kernel
theorem d_Script_readCommand_17 : decode prog_7_method_3_code 17 = .ok (.aload_n 1, 1) := by decide +kernel
theorem d_Script_readCommand_18 : decode prog_7_method_3_code 18 = .ok (.invokevirtual 69, 3) := by decide +kernel
theorem d_Script_readCommand_21 : decode prog_7_method_3_code 21 = .ok (.goto 135, 3) := by decide +kernel
theorem d_Script_readCommand_24 : decode prog_7_method_3_code 24 = .ok (.aload_n 0, 1) := by decide +kernel
theorem d_Script_readCommand_25 : decode prog_7_method_3_code 25 = .ok (.ldc 73, 2) := by decide +kernel
theorem d_Script_readCommand_27 : decode prog_7_method_3_code 27 = .ok (.invokevirtual 61, 3) := by decide +kernel
theorem d_Script_readCommand_30 : decode prog_7_method_3_code 30 = .ok (.ifCond .eq 18, 3) := by decide +kernel
theorem d_Script_readCommand_33 : decode prog_7_method_3_code 33 = .ok (.aload_n 0, 1) := by decide +kernel
theorem d_Script_readCommand_34 : decode prog_7_method_3_code 34 = .ok (.aload_n 0, 1) := by decide +kernel
theorem d_Script_readCommand_35 : decode prog_7_method_3_code 35 = .ok (.ldc 73, 2) := by decide +kernel
theorem d_Script_readCommand_37 : decode prog_7_method_3_code 37 = .ok (.iconst 1, 1) := by decide +kernel
theorem d_Script_readCommand_38 : decode prog_7_method_3_code 38 = .ok (.invokevirtual 65, 3) := by decide +kernel
theorem d_Script_readCommand_41 : decode prog_7_method_3_code 41 = .ok (.aload_n 1, 1) := by decide +kernel
theorem d_Script_readCommand_42 : decode prog_7_method_3_code 42 = .ok (.invokevirtual 75, 3) := by decide +kernel
theorem d_Script_readCommand_45 : decode prog_7_method_3_code 45 = .ok (.goto 111, 3) := by decide +kernel
theorem d_Script_readCommand_48 : decode prog_7_method_3_code 48 = .ok (.aload_n 0, 1) := by decide +kernel
theorem d_Script_readCommand_49 : decode prog_7_method_3_code 49 = .ok (.ldc 78, 2) := by decide +kernel
theorem d_Script_readCommand_51 : decode prog_7_method_3_code 51 = .ok (.invokevirtual 61, 3) := by decide +kernel
theorem d_Script_readCommand_54 : decode prog_7_method_3_code 54 = .ok (.ifCond .eq 29, 3) := by decide +kernel
theorem d_Script_readCommand_57 : decode prog_7_method_3_code 57 = .ok (.aload_n 0, 1) := by decide +kernel
theorem d_Script_readCommand_58 : decode prog_7_method_3_code 58 = .ok (.ldc 78, 2) := by decide +kernel
theorem d_Script_readCommand_60 : decode prog_7_method_3_code 60 = .ok (.iconst 2, 1) := by decide +kernel
theorem d_Script_readCommand_61 : decode prog_7_method_3_code 61 = .ok (.invokevirtual 65, 3) := by decide +kernel
theorem d_Script_readCommand_64 : decode prog_7_method_3_code 64 = .ok (.aload_n 0, 1) := by decide +kernel
theorem d_Script_readCommand_65 : decode prog_7_method_3_code 65 = .ok (.iconst 0, 1) := by decide +kernel
theorem d_Script_readCommand_66 : decode prog_7_method_3_code 66 = .ok (.bipush 23, 2) := by decide +kernel
theorem d_Script_readCommand_68 : decode prog_7_method_3_code 68 = .ok (.invokevirtual 80, 3) := by decide +kernel
theorem d_Script_readCommand_71 : decode prog_7_method_3_code 71 = .ok (.putfield 84, 3) := by decide +kernel
theorem d_Script_readCommand_74 : decode prog_7_method_3_code 74 = .ok (.aload_n 0, 1) := by decide +kernel
theorem d_Script_readCommand_75 : decode prog_7_method_3_code 75 = .ok (.bipush 59, 2) := by decide +kernel
theorem d_Script_readCommand_77 : decode prog_7_method_3_code 77 = .ok (.invokevirtual 87, 3) := by decide +kernel
theorem d_Script_readCommand_80 : decode prog_7_method_3_code 80 = .ok (.goto 76, 3) := by decide +kernel
theorem d_Script_readCommand_83 : decode prog_7_method_3_code 83 = .ok (.aload_n 0, 1) := by decide +kernel
theorem d_Script_readCommand_84 : decode prog_7_method_3_code 84 = .ok (.ldc 91, 2) := by decide +kernel
theorem d_Script_readCommand_86 : decode prog_7_method_3_code 86 = .ok (.invokevirtual 61, 3) := by decide +kernel
theorem d_Script_readCommand_89 : decode prog_7_method_3_code 89 = .ok (.ifCond .eq 29, 3) := by decide +kernel
theorem d_Script_readCommand_92 : decode prog_7_method_3_code 92 = .ok (.aload_n 0, 1) := by decide +kernel
theorem d_Script_readCommand_93 : decode prog_7_method_3_code 93 = .ok (.ldc 91, 2) := by decide +kernel
theorem d_Script_readCommand_95 : decode prog_7_method_3_code 95 = .ok (.iconst 3, 1) := by decide +kernel
theorem d_Script_readCommand_96 : decode prog_7_method_3_code 96 = .ok (.invokevirtual 65, 3) := by decide +kernel
theorem d_Script_readCommand_99 : decode prog_7_method_3_code 99 = .ok (.aload_n 0, 1) := by decide +kernel
theorem d_Script_readCommand_100 : decode prog_7_method_3_code 100 = .ok (.iconst 1, 1) := by decide +kernel
theorem d_Script_readCommand_101 : decode prog_7_method_3_code 101 = .ok (.bipush 60, 2) := by decide +kernel
theorem d_Script_readCommand_103 : decode prog_7_method_3_code 103 = .ok (.invokevirtual 80, 3) := by decide +kernel
theorem d_Script_readCommand_106 : decode prog_7_method_3_code 106 = .ok (.putfield 84, 3) := by decide +kernel
theorem d_Script_readCommand_109 : decode prog_7_method_3_code 109 = .ok (.aload_n 0, 1) := by decide +kernel
theorem d_Script_readCommand_110 : decode prog_7_method_3_code 110 = .ok (.bipush 59, 2) := by decide +kernel
theorem d_Script_readCommand_112 : decode prog_7_method_3_code 112 = .ok (.invokevirtual 87, 3) := by decide +kernel
theorem d_Script_readCommand_115 : decode prog_7_method_3_code 115 = .ok (.goto 41, 3) := by decide +kernel
theorem d_Script_readCommand_118 : decode prog_7_method_3_code 118 = .ok (.aload_n 0, 1) := by decide +kernel
theorem d_Script_readCommand_119 : decode prog_7_method_3_code 119 = .ok (.ldc 93, 2) := by decide +kernel
theorem d_Script_readCommand_121 : decode prog_7_method_3_code 121 = .ok (.invokevirtual 61, 3) := by decide +kernel
theorem d_Script_readCommand_124 : decode prog_7_method_3_code 124 = .ok (.ifCond .eq 27, 3) := by decide +kernel
theorem d_Script_readCommand_127 : decode prog_7_method_3_code 127 = .ok (.aload_n 0, 1) := by decide +kernel
theorem d_Script_readCommand_128 : decode prog_7_method_3_code 128 = .ok (.ldc 93, 2) := by decide +kernel
theorem d_Script_readCommand_130 : decode prog_7_method_3_code 130 = .ok (.iconst 4, 1) := by decide +kernel
theorem d_Script_readCommand_131 : decode prog_7_method_3_code 131 = .ok (.invokevirtual 65, 3) := by decide +kernel
theorem d_Script_readCommand_134 : decode prog_7_method_3_code 134 = .ok (.aload_n 0, 1) := by decide +kernel
theorem d_Script_readCommand_135 : decode prog_7_method_3_code 135 = .ok (.iconst 0, 1) := by decide +kernel
theorem d_Script_readCommand_136 : decode prog_7_method_3_code 136 = .ok (.bipush 20, 2) := by decide +kernel
theorem d_Script_readCommand_138 : decode prog_7_method_3_code 138 = .ok (.invokevirtual 80, 3) := by decide +kernel
theorem d_Script_readCommand_141 : decode prog_7_method_3_code 141 = .ok (.putfield 84, 3) := by decide +kernel
theorem d_Script_readCommand_144 : decode prog_7_method_3_code 144 = .ok (.aload_n 0, 1) := by decide +kernel
theorem d_Script_readCommand_145 : decode prog_7_method_3_code 145 = .ok (.invokevirtual 95, 3) := by decide +kernel
theorem d_Script_readCommand_148 : decode prog_7_method_3_code 148 = .ok (.goto 8, 3) := by decide +kernel
theorem d_Script_readCommand_151 : decode prog_7_method_3_code 151 = .ok (.aload_n 0, 1) := by decide +kernel
theorem d_Script_readCommand_152 : decode prog_7_method_3_code 152 = .ok (.iconst 1, 1) := by decide +kernel
theorem d_Script_readCommand_153 : decode prog_7_method_3_code 153 = .ok (.invokevirtual 55, 3) := by decide +kernel
theorem d_Script_readCommand_156 : decode prog_7_method_3_code 156 = .ok (.return_, 1) := by decide +kernel
theorem d_Script_readFor_0 : decode prog_7_method_2_code 0 = .ok (.aload_n 0, 1) := by decide +kernel
theorem d_Script_readFor_1 : decode prog_7_method_2_code 1 = .ok (.iconst 0, 1) := by decide +kernel
theorem d_Script_readFor_2 : decode prog_7_method_2_code 2 = .ok (.putfield 17, 3) := by decide +kernel
theorem d_Script_readFor_5 : decode prog_7_method_2_code 5 = .ok (.aload_n 0, 1) := by decide +kernel
theorem d_Script_readFor_6 : decode prog_7_method_2_code 6 = .ok (.iconst 0, 1) := by decide +kernel
theorem d_Script_readFor_7 : decode prog_7_method_2_code 7 = .ok (.putfield 21, 3) := by decide +kernel
theorem d_Script_readFor_10 : decode prog_7_method_2_code 10 = .ok (.aload_n 0, 1) := by decide +kernel
theorem d_Script_readFor_11 : decode prog_7_method_2_code 11 = .ok (.iconst 0, 1) := by decide +kernel
theorem d_Script_readFor_12 : decode prog_7_method_2_code 12 = .ok (.putfield 28, 3) := by decide +kernel
theorem d_Script_readFor_15 : decode prog_7_method_2_code 15 = .ok (.aload_n 0, 1) := by decide +kernel
theorem d_Script_readFor_16 : decode prog_7_method_2_code 16 = .ok (.invokevirtual 34, 3) := by decide +kernel
theorem d_Script_readFor_19 : decode prog_7_method_2_code 19 = .ok (.iconst 0, 1) := by decide +kernel
theorem d_Script_readFor_20 : decode prog_7_method_2_code 20 = .ok (.istore_n 2, 1) := by decide +kernel
theorem d_Script_readFor_21 : decode prog_7_method_2_code 21 = .ok (.iload_n 2, 1) := by decide +kernel
theorem d_Script_readFor_22 : decode prog_7_method_2_code 22 = .ok (.sipush 800, 3) := by decide +kernel
theorem d_Script_readFor_25 : decode prog_7_method_2_code 25 = .ok (.if_icmp .ge 51, 3) := by decide +kernel
theorem d_Script_readFor_28 : decode prog_7_method_2_code 28 = .ok (.aload_n 0, 1) := by decide +kernel
theorem d_Script_readFor_29 : decode prog_7_method_2_code 29 = .ok (.getfield 37, 3) := by decide +kernel
theorem d_Script_readFor_32 : decode prog_7_method_2_code 32 = .ok (.ifCond .ne 44, 3) := by decide +kernel
theorem d_Script_readFor_35 : decode prog_7_method_2_code 35 = .ok (.aload_n 0, 1) := by decide +kernel
theorem d_Script_readFor_36 : decode prog_7_method_2_code 36 = .ok (.invokevirtual 40, 3) := by decide +kernel
theorem d_Script_readFor_39 : decode prog_7_method_2_code 39 = .ok (.ifCond .ne 37, 3) := by decide +kernel
theorem d_Script_readFor_42 : decode prog_7_method_2_code 42 = .ok (.aload_n 0, 1) := by decide +kernel
theorem d_Script_readFor_43 : decode prog_7_method_2_code 43 = .ok (.getfield 28, 3) := by decide +kernel
theorem d_Script_readFor_46 : decode prog_7_method_2_code 46 = .ok (.ifCond .le 19, 3) := by decide +kernel
theorem d_Script_readFor_49 : decode prog_7_method_2_code 49 = .ok (.aload_n 0, 1) := by decide +kernel
theorem d_Script_readFor_50 : decode prog_7_method_2_code 50 = .ok (.bipush 41, 2) := by decide +kernel
theorem d_Script_readFor_52 : decode prog_7_method_2_code 52 = .ok (.invokevirtual 44, 3) := by decide +kernel
theorem d_Script_readFor_55 : decode prog_7_method_2_code 55 = .ok (.ifCond .eq 10, 3) := by decide +kernel
theorem d_Script_readFor_58 : decode prog_7_method_2_code 58 = .ok (.aload_n 0, 1) := by decide +kernel
theorem d_Script_readFor_59 : decode prog_7_method_2_code 59 = .ok (.invokevirtual 48, 3) := by decide +kernel
theorem d_Script_readFor_62 : decode prog_7_method_2_code 62 = .ok (.goto 8, 3) := by decide +kernel
theorem d_Script_readFor_65 : decode prog_7_method_2_code 65 = .ok (.aload_n 0, 1) := by decide +kernel
theorem d_Script_readFor_66 : decode prog_7_method_2_code 66 = .ok (.aload_n 1, 1) := by decide +kernel
theorem d_Script_readFor_67 : decode prog_7_method_2_code 67 = .ok (.invokevirtual 51, 3) := by decide +kernel
theorem d_Script_readFor_70 : decode prog_7_method_2_code 70 = .ok (.iinc 2 1, 3) := by decide +kernel
theorem d_Script_readFor_73 : decode prog_7_method_2_code 73 = .ok (.goto (-52), 3) := by decide +kernel
theorem d_Script_readFor_76 : decode prog_7_method_2_code 76 = .ok (.aload_n 0, 1) := by decide +kernel
theorem d_Script_readFor_77 : decode prog_7_method_2_code 77 = .ok (.getfield 28, 3) := by decide +kernel
theorem d_Script_readFor_80 : decode prog_7_method_2_code 80 = .ok (.ifCond .le 8, 3) := by decide +kernel
theorem d_Script_readFor_83 : decode prog_7_method_2_code 83 = .ok (.aload_n 0, 1) := by decide +kernel
theorem d_Script_readFor_84 : decode prog_7_method_2_code 84 = .ok (.iconst 1, 1) := by decide +kernel
theorem d_Script_readFor_85 : decode prog_7_method_2_code 85 = .ok (.invokevirtual 55, 3) := by decide +kernel
theorem d_Script_readFor_88 : decode prog_7_method_2_code 88 = .ok (.aload_n 0, 1) := by decide +kernel
theorem d_Script_readFor_89 : decode prog_7_method_2_code 89 = .ok (.getfield 37, 3) := by decide +kernel
theorem d_Script_readFor_92 : decode prog_7_method_2_code 92 = .ok (.ireturn, 1) := by decide +kernel
theorem d_Shop_faultOfSale_0 : decode prog_10_method_8_code 0 = .ok (.iload_n 2, 1) := by decide +kernel
theorem d_Shop_faultOfSale_1 : decode prog_10_method_8_code 1 = .ok (.iconst 1, 1) := by decide +kernel
theorem d_Shop_faultOfSale_2 : decode prog_10_method_8_code 2 = .ok (.if_icmp .eq 18, 3) := by decide +kernel
theorem d_Shop_faultOfSale_5 : decode prog_10_method_8_code 5 = .ok (.aload_n 0, 1) := by decide +kernel
theorem d_Shop_faultOfSale_6 : decode prog_10_method_8_code 6 = .ok (.getfield 61, 3) := by decide +kernel
theorem d_Shop_faultOfSale_9 : decode prog_10_method_8_code 9 = .ok (.getfield 94, 3) := by decide +kernel
theorem d_Shop_faultOfSale_12 : decode prog_10_method_8_code 12 = .ok (.iload 4, 2) := by decide +kernel
theorem d_Shop_faultOfSale_14 : decode prog_10_method_8_code 14 = .ok (.invokevirtual 98, 3) := by decide +kernel
theorem d_Shop_faultOfSale_17 : decode prog_10_method_8_code 17 = .ok (.ifCond .eq 7, 3) := by decide +kernel
theorem d_Shop_faultOfSale_20 : decode prog_10_method_8_code 20 = .ok (.iconst 1, 1) := by decide +kernel
theorem d_Shop_faultOfSale_21 : decode prog_10_method_8_code 21 = .ok (.goto 4, 3) := by decide +kernel
theorem d_Shop_faultOfSale_24 : decode prog_10_method_8_code 24 = .ok (.iconst 0, 1) := by decide +kernel
theorem d_Shop_faultOfSale_25 : decode prog_10_method_8_code 25 = .ok (.istore 8, 2) := by decide +kernel
theorem d_Shop_faultOfSale_27 : decode prog_10_method_8_code 27 = .ok (.aload_n 0, 1) := by decide +kernel
theorem d_Shop_faultOfSale_28 : decode prog_10_method_8_code 28 = .ok (.getfield 61, 3) := by decide +kernel
theorem d_Shop_faultOfSale_31 : decode prog_10_method_8_code 31 = .ok (.getfield 103, 3) := by decide +kernel
theorem d_Shop_faultOfSale_34 : decode prog_10_method_8_code 34 = .ok (.iload_n 1, 1) := by decide +kernel
theorem d_Shop_faultOfSale_35 : decode prog_10_method_8_code 35 = .ok (.invokevirtual 98, 3) := by decide +kernel
theorem d_Shop_faultOfSale_38 : decode prog_10_method_8_code 38 = .ok (.ifCond .eq 22, 3) := by decide +kernel
theorem d_Shop_faultOfSale_41 : decode prog_10_method_8_code 41 = .ok (.aload_n 0, 1) := by decide +kernel
theorem d_Shop_faultOfSale_42 : decode prog_10_method_8_code 42 = .ok (.getfield 61, 3) := by decide +kernel
theorem d_Shop_faultOfSale_45 : decode prog_10_method_8_code 45 = .ok (.getfield 106, 3) := by decide +kernel
theorem d_Shop_faultOfSale_48 : decode prog_10_method_8_code 48 = .ok (.iload_n 3, 1) := by decide +kernel
theorem d_Shop_faultOfSale_49 : decode prog_10_method_8_code 49 = .ok (.invokevirtual 98, 3) := by decide +kernel
theorem d_Shop_faultOfSale_52 : decode prog_10_method_8_code 52 = .ok (.ifCond .eq 8, 3) := by decide +kernel
theorem d_Shop_faultOfSale_55 : decode prog_10_method_8_code 55 = .ok (.iload 8, 2) := by decide +kernel
theorem d_Shop_faultOfSale_57 : decode prog_10_method_8_code 57 = .ok (.ifCond .ne 5, 3) := by decide +kernel
theorem d_Shop_faultOfSale_60 : decode prog_10_method_8_code 60 = .ok (.iconst 1, 1) := by decide +kernel
theorem d_Shop_faultOfSale_61 : decode prog_10_method_8_code 61 = .ok (.ireturn, 1) := by decide +kernel
theorem d_Shop_faultOfSale_62 : decode prog_10_method_8_code 62 = .ok (.iload 5, 2) := by decide +kernel
theorem d_Shop_faultOfSale_64 : decode prog_10_method_8_code 64 = .ok (.iconst 0, 1) := by decide +kernel
theorem d_Shop_faultOfSale_65 : decode prog_10_method_8_code 65 = .ok (.bipush 99, 2) := by decide +kernel
theorem d_Shop_faultOfSale_67 : decode prog_10_method_8_code 67 = .ok (.invokestatic 109, 3) := by decide +kernel
theorem d_Shop_faultOfSale_70 : decode prog_10_method_8_code 70 = .ok (.ifCond .eq 26, 3) := by decide +kernel
theorem d_Shop_faultOfSale_73 : decode prog_10_method_8_code 73 = .ok (.iload 6, 2) := by decide +kernel
theorem d_Shop_faultOfSale_75 : decode prog_10_method_8_code 75 = .ok (.iconst 1, 1) := by decide +kernel
theorem d_Shop_faultOfSale_76 : decode prog_10_method_8_code 76 = .ok (.bipush 60, 2) := by decide +kernel
theorem d_Shop_faultOfSale_78 : decode prog_10_method_8_code 78 = .ok (.invokestatic 109, 3) := by decide +kernel
theorem d_Shop_faultOfSale_81 : decode prog_10_method_8_code 81 = .ok (.ifCond .eq 15, 3) := by decide +kernel
theorem d_Shop_faultOfSale_84 : decode prog_10_method_8_code 84 = .ok (.iload 7, 2) := by decide +kernel
theorem d_Shop_faultOfSale_86 : decode prog_10_method_8_code 86 = .ok (.iconst 1, 1) := by decide +kernel
theorem d_Shop_faultOfSale_87 : decode prog_10_method_8_code 87 = .ok (.sipush 999, 3) := by decide +kernel
theorem d_Shop_faultOfSale_90 : decode prog_10_method_8_code 90 = .ok (.invokestatic 109, 3) := by decide +kernel
theorem d_Shop_faultOfSale_93 : decode prog_10_method_8_code 93 = .ok (.ifCond .ne 5, 3) := by decide +kernel
theorem d_Shop_faultOfSale_96 : decode prog_10_method_8_code 96 = .ok (.iconst 2, 1) := by decide +kernel
theorem d_Shop_faultOfSale_97 : decode prog_10_method_8_code 97 = .ok (.ireturn, 1) := by decide +kernel
theorem d_Shop_faultOfSale_98 : decode prog_10_method_8_code 98 = .ok (.aload_n 0, 1) := by decide +kernel
theorem d_Shop_faultOfSale_99 : decode prog_10_method_8_code 99 = .ok (.getfield 28, 3) := by decide +kernel
theorem d_Shop_faultOfSale_102 : decode prog_10_method_8_code 102 = .ok (.bipush 24, 2) := by decide +kernel
theorem d_Shop_faultOfSale_104 : decode prog_10_method_8_code 104 = .ok (.if_icmp .ge 13, 3) := by decide +kernel
theorem d_Shop_faultOfSale_107 : decode prog_10_method_8_code 107 = .ok (.aload_n 0, 1) := by decide +kernel
theorem d_Shop_faultOfSale_108 : decode prog_10_method_8_code 108 = .ok (.iload_n 1, 1) := by decide +kernel
theorem d_Shop_faultOfSale_109 : decode prog_10_method_8_code 109 = .ok (.invokevirtual 113, 3) := by decide +kernel
theorem d_Shop_faultOfSale_112 : decode prog_10_method_8_code 112 = .ok (.iload 7, 2) := by decide +kernel
theorem d_Shop_faultOfSale_114 : decode prog_10_method_8_code 114 = .ok (.if_icmp .ge 7, 3) := by decide +kernel
theorem d_Shop_faultOfSale_117 : decode prog_10_method_8_code 117 = .ok (.iconst 3, 1) := by decide +kernel
theorem d_Shop_faultOfSale_118 : decode prog_10_method_8_code 118 = .ok (.goto 4, 3) := by decide +kernel
theorem d_Shop_faultOfSale_121 : decode prog_10_method_8_code 121 = .ok (.iconst 0, 1) := by decide +kernel
theorem d_Shop_faultOfSale_122 : decode prog_10_method_8_code 122 = .ok (.ireturn, 1) := by decide +kernel
theorem d_Script_faultOf_0 : decode prog_7_method_14_code 0 = .ok (.aload_n 0, 1) := by decide +kernel
theorem d_Script_faultOf_1 : decode prog_7_method_14_code 1 = .ok (.getfield 106, 3) := by decide +kernel
theorem d_Script_faultOf_4 : decode prog_7_method_14_code 4 = .ok (.tableswitch 83 0 2 #[28, 61, 74], 28) := by decide +kernel
theorem d_Script_faultOf_32 : decode prog_7_method_14_code 32 = .ok (.aload_n 1, 1) := by decide +kernel
theorem d_Script_faultOf_33 : decode prog_7_method_14_code 33 = .ok (.aload_n 0, 1) := by decide +kernel
theorem d_Script_faultOf_34 : decode prog_7_method_14_code 34 = .ok (.getfield 119, 3) := by decide +kernel
theorem d_Script_faultOf_37 : decode prog_7_method_14_code 37 = .ok (.aload_n 0, 1) := by decide +kernel
theorem d_Script_faultOf_38 : decode prog_7_method_14_code 38 = .ok (.getfield 126, 3) := by decide +kernel
theorem d_Script_faultOf_41 : decode prog_7_method_14_code 41 = .ok (.aload_n 0, 1) := by decide +kernel
theorem d_Script_faultOf_42 : decode prog_7_method_14_code 42 = .ok (.getfield 132, 3) := by decide +kernel
theorem d_Script_faultOf_45 : decode prog_7_method_14_code 45 = .ok (.aload_n 0, 1) := by decide +kernel
theorem d_Script_faultOf_46 : decode prog_7_method_14_code 46 = .ok (.getfield 138, 3) := by decide +kernel
theorem d_Script_faultOf_49 : decode prog_7_method_14_code 49 = .ok (.aload_n 0, 1) := by decide +kernel
theorem d_Script_faultOf_50 : decode prog_7_method_14_code 50 = .ok (.getfield 141, 3) := by decide +kernel
theorem d_Script_faultOf_53 : decode prog_7_method_14_code 53 = .ok (.aload_n 0, 1) := by decide +kernel
theorem d_Script_faultOf_54 : decode prog_7_method_14_code 54 = .ok (.getfield 144, 3) := by decide +kernel
theorem d_Script_faultOf_57 : decode prog_7_method_14_code 57 = .ok (.aload_n 0, 1) := by decide +kernel
theorem d_Script_faultOf_58 : decode prog_7_method_14_code 58 = .ok (.getfield 147, 3) := by decide +kernel
theorem d_Script_faultOf_61 : decode prog_7_method_14_code 61 = .ok (.invokevirtual 194, 3) := by decide +kernel
theorem d_Script_faultOf_64 : decode prog_7_method_14_code 64 = .ok (.ireturn, 1) := by decide +kernel
theorem d_Script_faultOf_65 : decode prog_7_method_14_code 65 = .ok (.aload_n 1, 1) := by decide +kernel
theorem d_Script_faultOf_66 : decode prog_7_method_14_code 66 = .ok (.aload_n 0, 1) := by decide +kernel
theorem d_Script_faultOf_67 : decode prog_7_method_14_code 67 = .ok (.getfield 132, 3) := by decide +kernel
theorem d_Script_faultOf_70 : decode prog_7_method_14_code 70 = .ok (.aload_n 0, 1) := by decide +kernel
theorem d_Script_faultOf_71 : decode prog_7_method_14_code 71 = .ok (.getfield 138, 3) := by decide +kernel
theorem d_Script_faultOf_74 : decode prog_7_method_14_code 74 = .ok (.invokevirtual 197, 3) := by decide +kernel
theorem d_Script_faultOf_77 : decode prog_7_method_14_code 77 = .ok (.ireturn, 1) := by decide +kernel
theorem d_Script_faultOf_78 : decode prog_7_method_14_code 78 = .ok (.aload_n 1, 1) := by decide +kernel
theorem d_Script_faultOf_79 : decode prog_7_method_14_code 79 = .ok (.aload_n 0, 1) := by decide +kernel
theorem d_Script_faultOf_80 : decode prog_7_method_14_code 80 = .ok (.getfield 84, 3) := by decide +kernel
theorem d_Script_faultOf_83 : decode prog_7_method_14_code 83 = .ok (.invokevirtual 200, 3) := by decide +kernel
theorem d_Script_faultOf_86 : decode prog_7_method_14_code 86 = .ok (.ireturn, 1) := by decide +kernel
theorem d_Script_faultOf_87 : decode prog_7_method_14_code 87 = .ok (.aload_n 1, 1) := by decide +kernel
theorem d_Script_faultOf_88 : decode prog_7_method_14_code 88 = .ok (.aload_n 0, 1) := by decide +kernel
theorem d_Script_faultOf_89 : decode prog_7_method_14_code 89 = .ok (.getfield 84, 3) := by decide +kernel
theorem d_Script_faultOf_92 : decode prog_7_method_14_code 92 = .ok (.invokevirtual 203, 3) := by decide +kernel
theorem d_Script_faultOf_95 : decode prog_7_method_14_code 95 = .ok (.ireturn, 1) := by decide +kernel
theorem d_Shop_addProphecy_0 : decode prog_10_method_9_code 0 = .ok (.aload_n 0, 1) := by decide +kernel
theorem d_Shop_addProphecy_1 : decode prog_10_method_9_code 1 = .ok (.getfield 28, 3) := by decide +kernel
theorem d_Shop_addProphecy_4 : decode prog_10_method_9_code 4 = .ok (.bipush 24, 2) := by decide +kernel
theorem d_Shop_addProphecy_6 : decode prog_10_method_9_code 6 = .ok (.if_icmp .lt 5, 3) := by decide +kernel
theorem d_Shop_addProphecy_9 : decode prog_10_method_9_code 9 = .ok (.iconst (-1), 1) := by decide +kernel
theorem d_Shop_addProphecy_10 : decode prog_10_method_9_code 10 = .ok (.ireturn, 1) := by decide +kernel
theorem d_Shop_addProphecy_11 : decode prog_10_method_9_code 11 = .ok (.aload_n 0, 1) := by decide +kernel
theorem d_Shop_addProphecy_12 : decode prog_10_method_9_code 12 = .ok (.getfield 24, 3) := by decide +kernel
theorem d_Shop_addProphecy_15 : decode prog_10_method_9_code 15 = .ok (.aload_n 0, 1) := by decide +kernel
theorem d_Shop_addProphecy_16 : decode prog_10_method_9_code 16 = .ok (.getfield 28, 3) := by decide +kernel
theorem d_Shop_addProphecy_19 : decode prog_10_method_9_code 19 = .ok (.aaload, 1) := by decide +kernel
theorem d_Shop_addProphecy_20 : decode prog_10_method_9_code 20 = .ok (.astore 8, 2) := by decide +kernel
theorem d_Shop_addProphecy_22 : decode prog_10_method_9_code 22 = .ok (.aload 8, 2) := by decide +kernel
theorem d_Shop_addProphecy_24 : decode prog_10_method_9_code 24 = .ok (.iload_n 1, 1) := by decide +kernel
theorem d_Shop_addProphecy_25 : decode prog_10_method_9_code 25 = .ok (.putfield 116, 3) := by decide +kernel
theorem d_Shop_addProphecy_28 : decode prog_10_method_9_code 28 = .ok (.aload 8, 2) := by decide +kernel
theorem d_Shop_addProphecy_30 : decode prog_10_method_9_code 30 = .ok (.iload_n 2, 1) := by decide +kernel
theorem d_Shop_addProphecy_31 : decode prog_10_method_9_code 31 = .ok (.putfield 119, 3) := by decide +kernel
theorem d_Shop_addProphecy_34 : decode prog_10_method_9_code 34 = .ok (.aload 8, 2) := by decide +kernel
theorem d_Shop_addProphecy_36 : decode prog_10_method_9_code 36 = .ok (.iload_n 3, 1) := by decide +kernel
theorem d_Shop_addProphecy_37 : decode prog_10_method_9_code 37 = .ok (.putfield 122, 3) := by decide +kernel
theorem d_Shop_addProphecy_40 : decode prog_10_method_9_code 40 = .ok (.aload 8, 2) := by decide +kernel
theorem d_Shop_addProphecy_42 : decode prog_10_method_9_code 42 = .ok (.iload 4, 2) := by decide +kernel
theorem d_Shop_addProphecy_44 : decode prog_10_method_9_code 44 = .ok (.putfield 125, 3) := by decide +kernel
theorem d_Shop_addProphecy_47 : decode prog_10_method_9_code 47 = .ok (.aload 8, 2) := by decide +kernel
theorem d_Shop_addProphecy_49 : decode prog_10_method_9_code 49 = .ok (.aload_n 0, 1) := by decide +kernel
theorem d_Shop_addProphecy_50 : decode prog_10_method_9_code 50 = .ok (.getfield 9, 3) := by decide +kernel
theorem d_Shop_addProphecy_53 : decode prog_10_method_9_code 53 = .ok (.iload 5, 2) := by decide +kernel
theorem d_Shop_addProphecy_55 : decode prog_10_method_9_code 55 = .ok (.iadd, 1) := by decide +kernel
theorem d_Shop_addProphecy_56 : decode prog_10_method_9_code 56 = .ok (.putfield 128, 3) := by decide +kernel
theorem d_Shop_addProphecy_59 : decode prog_10_method_9_code 59 = .ok (.aload 8, 2) := by decide +kernel
theorem d_Shop_addProphecy_61 : decode prog_10_method_9_code 61 = .ok (.aload 8, 2) := by decide +kernel
theorem d_Shop_addProphecy_63 : decode prog_10_method_9_code 63 = .ok (.getfield 128, 3) := by decide +kernel
theorem d_Shop_addProphecy_66 : decode prog_10_method_9_code 66 = .ok (.iload 6, 2) := by decide +kernel
theorem d_Shop_addProphecy_68 : decode prog_10_method_9_code 68 = .ok (.iadd, 1) := by decide +kernel
theorem d_Shop_addProphecy_69 : decode prog_10_method_9_code 69 = .ok (.iconst 1, 1) := by decide +kernel
theorem d_Shop_addProphecy_70 : decode prog_10_method_9_code 70 = .ok (.isub, 1) := by decide +kernel
theorem d_Shop_addProphecy_71 : decode prog_10_method_9_code 71 = .ok (.putfield 131, 3) := by decide +kernel
theorem d_Shop_addProphecy_74 : decode prog_10_method_9_code 74 = .ok (.aload 8, 2) := by decide +kernel
theorem d_Shop_addProphecy_76 : decode prog_10_method_9_code 76 = .ok (.iload 7, 2) := by decide +kernel
theorem d_Shop_addProphecy_78 : decode prog_10_method_9_code 78 = .ok (.putfield 134, 3) := by decide +kernel
theorem d_Shop_addProphecy_81 : decode prog_10_method_9_code 81 = .ok (.aload 8, 2) := by decide +kernel
theorem d_Shop_addProphecy_83 : decode prog_10_method_9_code 83 = .ok (.iconst 0, 1) := by decide +kernel
theorem d_Shop_addProphecy_84 : decode prog_10_method_9_code 84 = .ok (.putfield 137, 3) := by decide +kernel
theorem d_Shop_addProphecy_87 : decode prog_10_method_9_code 87 = .ok (.aload 8, 2) := by decide +kernel
theorem d_Shop_addProphecy_89 : decode prog_10_method_9_code 89 = .ok (.iconst 0, 1) := by decide +kernel
theorem d_Shop_addProphecy_90 : decode prog_10_method_9_code 90 = .ok (.putfield 140, 3) := by decide +kernel
theorem d_Shop_addProphecy_93 : decode prog_10_method_9_code 93 = .ok (.aload_n 0, 1) := by decide +kernel
theorem d_Shop_addProphecy_94 : decode prog_10_method_9_code 94 = .ok (.iload_n 1, 1) := by decide +kernel
theorem d_Shop_addProphecy_95 : decode prog_10_method_9_code 95 = .ok (.iload 7, 2) := by decide +kernel
theorem d_Shop_addProphecy_97 : decode prog_10_method_9_code 97 = .ok (.ineg, 1) := by decide +kernel
theorem d_Shop_addProphecy_98 : decode prog_10_method_9_code 98 = .ok (.invokevirtual 143, 3) := by decide +kernel
theorem d_Shop_addProphecy_101 : decode prog_10_method_9_code 101 = .ok (.aload_n 0, 1) := by decide +kernel
theorem d_Shop_addProphecy_102 : decode prog_10_method_9_code 102 = .ok (.dup, 1) := by decide +kernel
theorem d_Shop_addProphecy_103 : decode prog_10_method_9_code 103 = .ok (.getfield 15, 3) := by decide +kernel
theorem d_Shop_addProphecy_106 : decode prog_10_method_9_code 106 = .ok (.iload 7, 2) := by decide +kernel
theorem d_Shop_addProphecy_108 : decode prog_10_method_9_code 108 = .ok (.iadd, 1) := by decide +kernel
theorem d_Shop_addProphecy_109 : decode prog_10_method_9_code 109 = .ok (.putfield 15, 3) := by decide +kernel
theorem d_Shop_addProphecy_112 : decode prog_10_method_9_code 112 = .ok (.aload_n 0, 1) := by decide +kernel
theorem d_Shop_addProphecy_113 : decode prog_10_method_9_code 113 = .ok (.dup, 1) := by decide +kernel
theorem d_Shop_addProphecy_114 : decode prog_10_method_9_code 114 = .ok (.getfield 28, 3) := by decide +kernel
theorem d_Shop_addProphecy_117 : decode prog_10_method_9_code 117 = .ok (.iconst 1, 1) := by decide +kernel
theorem d_Shop_addProphecy_118 : decode prog_10_method_9_code 118 = .ok (.iadd, 1) := by decide +kernel
theorem d_Shop_addProphecy_119 : decode prog_10_method_9_code 119 = .ok (.putfield 28, 3) := by decide +kernel
theorem d_Shop_addProphecy_122 : decode prog_10_method_9_code 122 = .ok (.aload_n 0, 1) := by decide +kernel
theorem d_Shop_addProphecy_123 : decode prog_10_method_9_code 123 = .ok (.getfield 28, 3) := by decide +kernel
theorem d_Shop_addProphecy_126 : decode prog_10_method_9_code 126 = .ok (.iconst 1, 1) := by decide +kernel
theorem d_Shop_addProphecy_127 : decode prog_10_method_9_code 127 = .ok (.isub, 1) := by decide +kernel
theorem d_Shop_addProphecy_128 : decode prog_10_method_9_code 128 = .ok (.ireturn, 1) := by decide +kernel
theorem d_Script_perform_0 : decode prog_7_method_13_code 0 = .ok (.aload_n 0, 1) := by decide +kernel
theorem d_Script_perform_1 : decode prog_7_method_13_code 1 = .ok (.aload_n 1, 1) := by decide +kernel
theorem d_Script_perform_2 : decode prog_7_method_13_code 2 = .ok (.invokestatic 174, 3) := by decide +kernel
theorem d_Script_perform_5 : decode prog_7_method_13_code 5 = .ok (.ifCond .eq 5, 3) := by decide +kernel
theorem d_Script_perform_8 : decode prog_7_method_13_code 8 = .ok (.iconst 0, 1) := by decide +kernel
theorem d_Script_perform_9 : decode prog_7_method_13_code 9 = .ok (.ireturn, 1) := by decide +kernel
theorem d_Script_perform_10 : decode prog_7_method_13_code 10 = .ok (.aload_n 0, 1) := by decide +kernel
theorem d_Script_perform_11 : decode prog_7_method_13_code 11 = .ok (.getfield 106, 3) := by decide +kernel
theorem d_Script_perform_14 : decode prog_7_method_13_code 14 = .ok (.tableswitch 90 0 2 #[26, 62, 78], 26) := by decide +kernel
theorem d_Script_perform_40 : decode prog_7_method_13_code 40 = .ok (.aload_n 1, 1) := by decide +kernel
theorem d_Script_perform_41 : decode prog_7_method_13_code 41 = .ok (.aload_n 0, 1) := by decide +kernel
theorem d_Script_perform_42 : decode prog_7_method_13_code 42 = .ok (.getfield 119, 3) := by decide +kernel
theorem d_Script_perform_45 : decode prog_7_method_13_code 45 = .ok (.aload_n 0, 1) := by decide +kernel
theorem d_Script_perform_46 : decode prog_7_method_13_code 46 = .ok (.getfield 126, 3) := by decide +kernel
theorem d_Script_perform_49 : decode prog_7_method_13_code 49 = .ok (.aload_n 0, 1) := by decide +kernel
theorem d_Script_perform_50 : decode prog_7_method_13_code 50 = .ok (.getfield 132, 3) := by decide +kernel
theorem d_Script_perform_53 : decode prog_7_method_13_code 53 = .ok (.aload_n 0, 1) := by decide +kernel
theorem d_Script_perform_54 : decode prog_7_method_13_code 54 = .ok (.getfield 138, 3) := by decide +kernel
theorem d_Script_perform_57 : decode prog_7_method_13_code 57 = .ok (.aload_n 0, 1) := by decide +kernel
theorem d_Script_perform_58 : decode prog_7_method_13_code 58 = .ok (.getfield 141, 3) := by decide +kernel
theorem d_Script_perform_61 : decode prog_7_method_13_code 61 = .ok (.aload_n 0, 1) := by decide +kernel
theorem d_Script_perform_62 : decode prog_7_method_13_code 62 = .ok (.getfield 144, 3) := by decide +kernel
theorem d_Script_perform_65 : decode prog_7_method_13_code 65 = .ok (.aload_n 0, 1) := by decide +kernel
theorem d_Script_perform_66 : decode prog_7_method_13_code 66 = .ok (.getfield 147, 3) := by decide +kernel
theorem d_Script_perform_69 : decode prog_7_method_13_code 69 = .ok (.invokevirtual 178, 3) := by decide +kernel
theorem d_Script_perform_72 : decode prog_7_method_13_code 72 = .ok (.pop, 1) := by decide +kernel
theorem d_Script_perform_73 : decode prog_7_method_13_code 73 = .ok (.goto 40, 3) := by decide +kernel
theorem d_Script_perform_76 : decode prog_7_method_13_code 76 = .ok (.aload_n 1, 1) := by decide +kernel
theorem d_Script_perform_77 : decode prog_7_method_13_code 77 = .ok (.aload_n 0, 1) := by decide +kernel
theorem d_Script_perform_78 : decode prog_7_method_13_code 78 = .ok (.getfield 132, 3) := by decide +kernel
theorem d_Script_perform_81 : decode prog_7_method_13_code 81 = .ok (.aload_n 0, 1) := by decide +kernel
theorem d_Script_perform_82 : decode prog_7_method_13_code 82 = .ok (.getfield 138, 3) := by decide +kernel
theorem d_Script_perform_85 : decode prog_7_method_13_code 85 = .ok (.invokevirtual 184, 3) := by decide +kernel
theorem d_Script_perform_88 : decode prog_7_method_13_code 88 = .ok (.pop, 1) := by decide +kernel
theorem d_Script_perform_89 : decode prog_7_method_13_code 89 = .ok (.goto 24, 3) := by decide +kernel
theorem d_Script_perform_92 : decode prog_7_method_13_code 92 = .ok (.aload_n 1, 1) := by decide +kernel
theorem d_Script_perform_93 : decode prog_7_method_13_code 93 = .ok (.aload_n 0, 1) := by decide +kernel
theorem d_Script_perform_94 : decode prog_7_method_13_code 94 = .ok (.getfield 84, 3) := by decide +kernel
theorem d_Script_perform_97 : decode prog_7_method_13_code 97 = .ok (.invokevirtual 187, 3) := by decide +kernel
theorem d_Script_perform_100 : decode prog_7_method_13_code 100 = .ok (.pop, 1) := by decide +kernel
theorem d_Script_perform_101 : decode prog_7_method_13_code 101 = .ok (.goto 12, 3) := by decide +kernel
theorem d_Script_perform_104 : decode prog_7_method_13_code 104 = .ok (.aload_n 1, 1) := by decide +kernel
theorem d_Script_perform_105 : decode prog_7_method_13_code 105 = .ok (.aload_n 0, 1) := by decide +kernel
theorem d_Script_perform_106 : decode prog_7_method_13_code 106 = .ok (.getfield 84, 3) := by decide +kernel
theorem d_Script_perform_109 : decode prog_7_method_13_code 109 = .ok (.invokevirtual 191, 3) := by decide +kernel
theorem d_Script_perform_112 : decode prog_7_method_13_code 112 = .ok (.pop, 1) := by decide +kernel
theorem d_Script_perform_113 : decode prog_7_method_13_code 113 = .ok (.iconst 1, 1) := by decide +kernel
theorem d_Script_perform_114 : decode prog_7_method_13_code 114 = .ok (.ireturn, 1) := by decide +kernel
theorem d_Script_execute_0 : decode prog_7_method_12_code 0 = .ok (.iconst 0, 1) := by decide +kernel
theorem d_Script_execute_1 : decode prog_7_method_12_code 1 = .ok (.istore_n 2, 1) := by decide +kernel
theorem d_Script_execute_2 : decode prog_7_method_12_code 2 = .ok (.iconst 0, 1) := by decide +kernel
theorem d_Script_execute_3 : decode prog_7_method_12_code 3 = .ok (.istore_n 3, 1) := by decide +kernel
theorem d_Script_execute_4 : decode prog_7_method_12_code 4 = .ok (.iconst 0, 1) := by decide +kernel
theorem d_Script_execute_5 : decode prog_7_method_12_code 5 = .ok (.istore 4, 2) := by decide +kernel
theorem d_Script_execute_7 : decode prog_7_method_12_code 7 = .ok (.iload 4, 2) := by decide +kernel
theorem d_Script_execute_9 : decode prog_7_method_12_code 9 = .ok (.ldc 166, 2) := by decide +kernel
theorem d_Script_execute_11 : decode prog_7_method_12_code 11 = .ok (.if_icmp .ge 150, 3) := by decide +kernel
theorem d_Script_execute_14 : decode prog_7_method_12_code 14 = .ok (.iload_n 3, 1) := by decide +kernel
theorem d_Script_execute_15 : decode prog_7_method_12_code 15 = .ok (.aload_n 0, 1) := by decide +kernel
theorem d_Script_execute_16 : decode prog_7_method_12_code 16 = .ok (.getfield 17, 3) := by decide +kernel
theorem d_Script_execute_19 : decode prog_7_method_12_code 19 = .ok (.if_icmp .ge 142, 3) := by decide +kernel
theorem d_Script_execute_22 : decode prog_7_method_12_code 22 = .ok (.iload_n 2, 1) := by decide +kernel
theorem d_Script_execute_23 : decode prog_7_method_12_code 23 = .ok (.bipush 40, 2) := by decide +kernel
theorem d_Script_execute_25 : decode prog_7_method_12_code 25 = .ok (.if_icmp .ge 136, 3) := by decide +kernel
theorem d_Script_execute_28 : decode prog_7_method_12_code 28 = .ok (.aload_n 0, 1) := by decide +kernel
theorem d_Script_execute_29 : decode prog_7_method_12_code 29 = .ok (.iload_n 3, 1) := by decide +kernel
theorem d_Script_execute_30 : decode prog_7_method_12_code 30 = .ok (.invokevirtual 163, 3) := by decide +kernel
theorem d_Script_execute_33 : decode prog_7_method_12_code 33 = .ok (.astore 5, 2) := by decide +kernel
theorem d_Script_execute_35 : decode prog_7_method_12_code 35 = .ok (.aload 5, 2) := by decide +kernel
theorem d_Script_execute_37 : decode prog_7_method_12_code 37 = .ok (.getfield 106, 3) := by decide +kernel
theorem d_Script_execute_40 : decode prog_7_method_12_code 40 = .ok (.iconst 4, 1) := by decide +kernel
theorem d_Script_execute_41 : decode prog_7_method_12_code 41 = .ok (.if_icmp .ne 38, 3) := by decide +kernel
theorem d_Script_execute_44 : decode prog_7_method_12_code 44 = .ok (.aload 5, 2) := by decide +kernel
theorem d_Script_execute_46 : decode prog_7_method_12_code 46 = .ok (.aload 5, 2) := by decide +kernel
theorem d_Script_execute_48 : decode prog_7_method_12_code 48 = .ok (.getfield 84, 3) := by decide +kernel
theorem d_Script_execute_51 : decode prog_7_method_12_code 51 = .ok (.putfield 167, 3) := by decide +kernel
theorem d_Script_execute_54 : decode prog_7_method_12_code 54 = .ok (.aload 5, 2) := by decide +kernel
theorem d_Script_execute_56 : decode prog_7_method_12_code 56 = .ok (.getfield 84, 3) := by decide +kernel
theorem d_Script_execute_59 : decode prog_7_method_12_code 59 = .ok (.ifCond .le 9, 3) := by decide +kernel
theorem d_Script_execute_62 : decode prog_7_method_12_code 62 = .ok (.iload_n 3, 1) := by decide +kernel
theorem d_Script_execute_63 : decode prog_7_method_12_code 63 = .ok (.iconst 1, 1) := by decide +kernel
theorem d_Script_execute_64 : decode prog_7_method_12_code 64 = .ok (.iadd, 1) := by decide +kernel
theorem d_Script_execute_65 : decode prog_7_method_12_code 65 = .ok (.goto 10, 3) := by decide +kernel
theorem d_Script_execute_68 : decode prog_7_method_12_code 68 = .ok (.aload 5, 2) := by decide +kernel
theorem d_Script_execute_70 : decode prog_7_method_12_code 70 = .ok (.getfield 160, 3) := by decide +kernel
theorem d_Script_execute_73 : decode prog_7_method_12_code 73 = .ok (.iconst 1, 1) := by decide +kernel
theorem d_Script_execute_74 : decode prog_7_method_12_code 74 = .ok (.iadd, 1) := by decide +kernel
theorem d_Script_execute_75 : decode prog_7_method_12_code 75 = .ok (.istore_n 3, 1) := by decide +kernel
theorem d_Script_execute_76 : decode prog_7_method_12_code 76 = .ok (.goto 79, 3) := by decide +kernel
theorem d_Script_execute_79 : decode prog_7_method_12_code 79 = .ok (.aload 5, 2) := by decide +kernel
theorem d_Script_execute_81 : decode prog_7_method_12_code 81 = .ok (.getfield 106, 3) := by decide +kernel
theorem d_Script_execute_84 : decode prog_7_method_12_code 84 = .ok (.iconst 5, 1) := by decide +kernel
theorem d_Script_execute_85 : decode prog_7_method_12_code 85 = .ok (.if_icmp .ne 50, 3) := by decide +kernel
theorem d_Script_execute_88 : decode prog_7_method_12_code 88 = .ok (.aload_n 0, 1) := by decide +kernel
theorem d_Script_execute_89 : decode prog_7_method_12_code 89 = .ok (.aload 5, 2) := by decide +kernel
theorem d_Script_execute_91 : decode prog_7_method_12_code 91 = .ok (.getfield 160, 3) := by decide +kernel
theorem d_Script_execute_94 : decode prog_7_method_12_code 94 = .ok (.invokevirtual 163, 3) := by decide +kernel
theorem d_Script_execute_97 : decode prog_7_method_12_code 97 = .ok (.astore 6, 2) := by decide +kernel
theorem d_Script_execute_99 : decode prog_7_method_12_code 99 = .ok (.aload 6, 2) := by decide +kernel
theorem d_Script_execute_101 : decode prog_7_method_12_code 101 = .ok (.dup, 1) := by decide +kernel
theorem d_Script_execute_102 : decode prog_7_method_12_code 102 = .ok (.getfield 167, 3) := by decide +kernel
theorem d_Script_execute_105 : decode prog_7_method_12_code 105 = .ok (.iconst 1, 1) := by decide +kernel
theorem d_Script_execute_106 : decode prog_7_method_12_code 106 = .ok (.isub, 1) := by decide +kernel
theorem d_Script_execute_107 : decode prog_7_method_12_code 107 = .ok (.putfield 167, 3) := by decide +kernel
theorem d_Script_execute_110 : decode prog_7_method_12_code 110 = .ok (.aload 6, 2) := by decide +kernel
theorem d_Script_execute_112 : decode prog_7_method_12_code 112 = .ok (.getfield 167, 3) := by decide +kernel
theorem d_Script_execute_115 : decode prog_7_method_12_code 115 = .ok (.ifCond .le 13, 3) := by decide +kernel
theorem d_Script_execute_118 : decode prog_7_method_12_code 118 = .ok (.aload 5, 2) := by decide +kernel
theorem d_Script_execute_120 : decode prog_7_method_12_code 120 = .ok (.getfield 160, 3) := by decide +kernel
theorem d_Script_execute_123 : decode prog_7_method_12_code 123 = .ok (.iconst 1, 1) := by decide +kernel
theorem d_Script_execute_124 : decode prog_7_method_12_code 124 = .ok (.iadd, 1) := by decide +kernel
theorem d_Script_execute_125 : decode prog_7_method_12_code 125 = .ok (.goto 6, 3) := by decide +kernel
theorem d_Script_execute_128 : decode prog_7_method_12_code 128 = .ok (.iload_n 3, 1) := by decide +kernel
theorem d_Script_execute_129 : decode prog_7_method_12_code 129 = .ok (.iconst 1, 1) := by decide +kernel
theorem d_Script_execute_130 : decode prog_7_method_12_code 130 = .ok (.iadd, 1) := by decide +kernel
theorem d_Script_execute_131 : decode prog_7_method_12_code 131 = .ok (.istore_n 3, 1) := by decide +kernel
theorem d_Script_execute_132 : decode prog_7_method_12_code 132 = .ok (.goto 23, 3) := by decide +kernel
theorem d_Script_execute_135 : decode prog_7_method_12_code 135 = .ok (.aload 5, 2) := by decide +kernel
theorem d_Script_execute_137 : decode prog_7_method_12_code 137 = .ok (.aload_n 1, 1) := by decide +kernel
theorem d_Script_execute_138 : decode prog_7_method_12_code 138 = .ok (.invokestatic 170, 3) := by decide +kernel
theorem d_Script_execute_141 : decode prog_7_method_12_code 141 = .ok (.ifCond .eq 12, 3) := by decide +kernel
theorem d_Script_execute_144 : decode prog_7_method_12_code 144 = .ok (.iinc 2 1, 3) := by decide +kernel
theorem d_Script_execute_147 : decode prog_7_method_12_code 147 = .ok (.iinc 3 1, 3) := by decide +kernel
theorem d_Script_execute_150 : decode prog_7_method_12_code 150 = .ok (.goto 5, 3) := by decide +kernel
theorem d_Script_execute_153 : decode prog_7_method_12_code 153 = .ok (.iload_n 2, 1) := by decide +kernel
theorem d_Script_execute_154 : decode prog_7_method_12_code 154 = .ok (.ireturn, 1) := by decide +kernel
theorem d_Script_execute_155 : decode prog_7_method_12_code 155 = .ok (.iinc 4 1, 3) := by decide +kernel
theorem d_Script_execute_158 : decode prog_7_method_12_code 158 = .ok (.goto (-151), 3) := by decide +kernel
theorem d_Script_execute_161 : decode prog_7_method_12_code 161 = .ok (.iload_n 2, 1) := by decide +kernel
theorem d_Script_execute_162 : decode prog_7_method_12_code 162 = .ok (.ireturn, 1) := by decide +kernel
theorem d_P_runScript_0 : decode prog_1_method_5_code 0 = .ok (.aload_n 0, 1) := by decide +kernel
theorem d_P_runScript_1 : decode prog_1_method_5_code 1 = .ok (.getfield 28, 3) := by decide +kernel
theorem d_P_runScript_4 : decode prog_1_method_5_code 4 = .ok (.aload_n 0, 1) := by decide +kernel
theorem d_P_runScript_5 : decode prog_1_method_5_code 5 = .ok (.getfield 35, 3) := by decide +kernel
theorem d_P_runScript_8 : decode prog_1_method_5_code 8 = .ok (.invokevirtual 133, 3) := by decide +kernel
theorem d_P_runScript_11 : decode prog_1_method_5_code 11 = .ok (.istore_n 1, 1) := by decide +kernel
theorem d_P_runScript_12 : decode prog_1_method_5_code 12 = .ok (.aload_n 0, 1) := by decide +kernel
theorem d_P_runScript_13 : decode prog_1_method_5_code 13 = .ok (.iload_n 1, 1) := by decide +kernel
theorem d_P_runScript_14 : decode prog_1_method_5_code 14 = .ok (.putfield 69, 3) := by decide +kernel
theorem d_P_runScript_17 : decode prog_1_method_5_code 17 = .ok (.aload_n 0, 1) := by decide +kernel
theorem d_P_runScript_18 : decode prog_1_method_5_code 18 = .ok (.aload_n 0, 1) := by decide +kernel
theorem d_P_runScript_19 : decode prog_1_method_5_code 19 = .ok (.getfield 28, 3) := by decide +kernel
theorem d_P_runScript_22 : decode prog_1_method_5_code 22 = .ok (.getfield 137, 3) := by decide +kernel
theorem d_P_runScript_25 : decode prog_1_method_5_code 25 = .ok (.putfield 73, 3) := by decide +kernel
theorem d_P_runScript_28 : decode prog_1_method_5_code 28 = .ok (.aload_n 0, 1) := by decide +kernel
theorem d_P_runScript_29 : decode prog_1_method_5_code 29 = .ok (.getfield 10, 3) := by decide +kernel
theorem d_P_runScript_32 : decode prog_1_method_5_code 32 = .ok (.iconst 0, 1) := by decide +kernel
theorem d_P_runScript_33 : decode prog_1_method_5_code 33 = .ok (.invokevirtual 127, 3) := by decide +kernel
theorem d_P_runScript_36 : decode prog_1_method_5_code 36 = .ok (.iload_n 1, 1) := by decide +kernel
theorem d_P_runScript_37 : decode prog_1_method_5_code 37 = .ok (.ifCond .eq 5, 3) := by decide +kernel
theorem d_P_runScript_40 : decode prog_1_method_5_code 40 = .ok (.iconst (-1), 1) := by decide +kernel
theorem d_P_runScript_41 : decode prog_1_method_5_code 41 = .ok (.ireturn, 1) := by decide +kernel
theorem d_P_runScript_42 : decode prog_1_method_5_code 42 = .ok (.aload_n 0, 1) := by decide +kernel
theorem d_P_runScript_43 : decode prog_1_method_5_code 43 = .ok (.getfield 57, 3) := by decide +kernel
theorem d_P_runScript_46 : decode prog_1_method_5_code 46 = .ok (.aload_n 0, 1) := by decide +kernel
theorem d_P_runScript_47 : decode prog_1_method_5_code 47 = .ok (.getfield 47, 3) := by decide +kernel
theorem d_P_runScript_50 : decode prog_1_method_5_code 50 = .ok (.invokevirtual 138, 3) := by decide +kernel
theorem d_P_runScript_53 : decode prog_1_method_5_code 53 = .ok (.aload_n 0, 1) := by decide +kernel
theorem d_P_runScript_54 : decode prog_1_method_5_code 54 = .ok (.getfield 28, 3) := by decide +kernel
theorem d_P_runScript_57 : decode prog_1_method_5_code 57 = .ok (.aload_n 0, 1) := by decide +kernel
theorem d_P_runScript_58 : decode prog_1_method_5_code 58 = .ok (.getfield 47, 3) := by decide +kernel
theorem d_P_runScript_61 : decode prog_1_method_5_code 61 = .ok (.invokevirtual 142, 3) := by decide +kernel
theorem d_P_runScript_64 : decode prog_1_method_5_code 64 = .ok (.ireturn, 1) := by decide +kernel
theorem d_P_save_0 : decode prog_1_method_55_code 0 = .ok (.iload_n 1, 1) := by decide +kernel
theorem d_P_save_1 : decode prog_1_method_55_code 1 = .ok (.ifCond .lt 12, 3) := by decide +kernel
theorem d_P_save_4 : decode prog_1_method_55_code 4 = .ok (.iload_n 1, 1) := by decide +kernel
theorem d_P_save_5 : decode prog_1_method_55_code 5 = .ok (.iconst 2, 1) := by decide +kernel
theorem d_P_save_6 : decode prog_1_method_55_code 6 = .ok (.if_icmp .ge 7, 3) := by decide +kernel
theorem d_P_save_9 : decode prog_1_method_55_code 9 = .ok (.iconst 1, 1) := by decide +kernel
theorem d_P_save_10 : decode prog_1_method_55_code 10 = .ok (.goto 4, 3) := by decide +kernel
theorem d_P_save_13 : decode prog_1_method_55_code 13 = .ok (.iconst 0, 1) := by decide +kernel
theorem d_P_save_14 : decode prog_1_method_55_code 14 = .ok (.invokestatic 178, 3) := by decide +kernel
theorem d_P_save_17 : decode prog_1_method_55_code 17 = .ok (.aload_n 0, 1) := by decide +kernel
theorem d_P_save_18 : decode prog_1_method_55_code 18 = .ok (.getfield 61, 3) := by decide +kernel
theorem d_P_save_21 : decode prog_1_method_55_code 21 = .ok (.iload_n 1, 1) := by decide +kernel
theorem d_P_save_22 : decode prog_1_method_55_code 22 = .ok (.aaload, 1) := by decide +kernel
theorem d_P_save_23 : decode prog_1_method_55_code 23 = .ok (.aload_n 0, 1) := by decide +kernel
theorem d_P_save_24 : decode prog_1_method_55_code 24 = .ok (.getfield 47, 3) := by decide +kernel
theorem d_P_save_27 : decode prog_1_method_55_code 27 = .ok (.invokevirtual 296, 3) := by decide +kernel
theorem d_P_save_30 : decode prog_1_method_55_code 30 = .ok (.aload_n 0, 1) := by decide +kernel
theorem d_P_save_31 : decode prog_1_method_55_code 31 = .ok (.getfield 65, 3) := by decide +kernel
theorem d_P_save_34 : decode prog_1_method_55_code 34 = .ok (.iload_n 1, 1) := by decide +kernel
theorem d_P_save_35 : decode prog_1_method_55_code 35 = .ok (.iconst 1, 1) := by decide +kernel
theorem d_P_save_36 : decode prog_1_method_55_code 36 = .ok (.bastore, 1) := by decide +kernel
theorem d_P_save_37 : decode prog_1_method_55_code 37 = .ok (.aload_n 0, 1) := by decide +kernel
theorem d_P_save_38 : decode prog_1_method_55_code 38 = .ok (.getfield 47, 3) := by decide +kernel
theorem d_P_save_41 : decode prog_1_method_55_code 41 = .ok (.getfield 146, 3) := by decide +kernel
theorem d_P_save_44 : decode prog_1_method_55_code 44 = .ok (.ireturn, 1) := by decide +kernel
theorem d_P_sellAny_0 : decode prog_1_method_58_code 0 = .ok (.aload_n 0, 1) := by decide +kernel
theorem d_P_sellAny_1 : decode prog_1_method_58_code 1 = .ok (.getfield 47, 3) := by decide +kernel
theorem d_P_sellAny_4 : decode prog_1_method_58_code 4 = .ok (.iload_n 1, 1) := by decide +kernel
theorem d_P_sellAny_5 : decode prog_1_method_58_code 5 = .ok (.iload_n 2, 1) := by decide +kernel
theorem d_P_sellAny_6 : decode prog_1_method_58_code 6 = .ok (.iload_n 3, 1) := by decide +kernel
theorem d_P_sellAny_7 : decode prog_1_method_58_code 7 = .ok (.iload 4, 2) := by decide +kernel
theorem d_P_sellAny_9 : decode prog_1_method_58_code 9 = .ok (.iload 5, 2) := by decide +kernel
theorem d_P_sellAny_11 : decode prog_1_method_58_code 11 = .ok (.iload 6, 2) := by decide +kernel
theorem d_P_sellAny_13 : decode prog_1_method_58_code 13 = .ok (.iload 7, 2) := by decide +kernel
theorem d_P_sellAny_15 : decode prog_1_method_58_code 15 = .ok (.invokevirtual 362, 3) := by decide +kernel
theorem d_P_sellAny_18 : decode prog_1_method_58_code 18 = .ok (.invokestatic 312, 3) := by decide +kernel
theorem d_P_sellAny_21 : decode prog_1_method_58_code 21 = .ok (.aload_n 0, 1) := by decide +kernel
theorem d_P_sellAny_22 : decode prog_1_method_58_code 22 = .ok (.getfield 57, 3) := by decide +kernel
theorem d_P_sellAny_25 : decode prog_1_method_58_code 25 = .ok (.aload_n 0, 1) := by decide +kernel
theorem d_P_sellAny_26 : decode prog_1_method_58_code 26 = .ok (.getfield 47, 3) := by decide +kernel
theorem d_P_sellAny_29 : decode prog_1_method_58_code 29 = .ok (.invokevirtual 138, 3) := by decide +kernel
theorem d_P_sellAny_32 : decode prog_1_method_58_code 32 = .ok (.aload_n 0, 1) := by decide +kernel
theorem d_P_sellAny_33 : decode prog_1_method_58_code 33 = .ok (.getfield 47, 3) := by decide +kernel
theorem d_P_sellAny_36 : decode prog_1_method_58_code 36 = .ok (.iload_n 1, 1) := by decide +kernel
theorem d_P_sellAny_37 : decode prog_1_method_58_code 37 = .ok (.iload_n 2, 1) := by decide +kernel
theorem d_P_sellAny_38 : decode prog_1_method_58_code 38 = .ok (.iload_n 3, 1) := by decide +kernel
theorem d_P_sellAny_39 : decode prog_1_method_58_code 39 = .ok (.iload 4, 2) := by decide +kernel
theorem d_P_sellAny_41 : decode prog_1_method_58_code 41 = .ok (.iload 5, 2) := by decide +kernel
theorem d_P_sellAny_43 : decode prog_1_method_58_code 43 = .ok (.iload 6, 2) := by decide +kernel
theorem d_P_sellAny_45 : decode prog_1_method_58_code 45 = .ok (.iload 7, 2) := by decide +kernel
theorem d_P_sellAny_47 : decode prog_1_method_58_code 47 = .ok (.invokevirtual 365, 3) := by decide +kernel
theorem d_P_sellAny_50 : decode prog_1_method_58_code 50 = .ok (.ireturn, 1) := by decide +kernel
theorem d_P_sellDenial_0 : decode prog_1_method_46_code 0 = .ok (.aload_n 0, 1) := by decide +kernel
theorem d_P_sellDenial_1 : decode prog_1_method_46_code 1 = .ok (.iload_n 1, 1) := by decide +kernel
theorem d_P_sellDenial_2 : decode prog_1_method_46_code 2 = .ok (.iconst 2, 1) := by decide +kernel
theorem d_P_sellDenial_3 : decode prog_1_method_46_code 3 = .ok (.iload_n 2, 1) := by decide +kernel
theorem d_P_sellDenial_4 : decode prog_1_method_46_code 4 = .ok (.iload_n 3, 1) := by decide +kernel
theorem d_P_sellDenial_5 : decode prog_1_method_46_code 5 = .ok (.iload 4, 2) := by decide +kernel
theorem d_P_sellDenial_7 : decode prog_1_method_46_code 7 = .ok (.iload 5, 2) := by decide +kernel
theorem d_P_sellDenial_9 : decode prog_1_method_46_code 9 = .ok (.iload 6, 2) := by decide +kernel
theorem d_P_sellDenial_11 : decode prog_1_method_46_code 11 = .ok (.invokevirtual 305, 3) := by decide +kernel
theorem d_P_sellDenial_14 : decode prog_1_method_46_code 14 = .ok (.ireturn, 1) := by decide +kernel
theorem d_P_sellPlain_0 : decode prog_1_method_44_code 0 = .ok (.aload_n 0, 1) := by decide +kernel
theorem d_P_sellPlain_1 : decode prog_1_method_44_code 1 = .ok (.iload_n 1, 1) := by decide +kernel
theorem d_P_sellPlain_2 : decode prog_1_method_44_code 2 = .ok (.iconst 0, 1) := by decide +kernel
theorem d_P_sellPlain_3 : decode prog_1_method_44_code 3 = .ok (.iload_n 2, 1) := by decide +kernel
theorem d_P_sellPlain_4 : decode prog_1_method_44_code 4 = .ok (.iload_n 3, 1) := by decide +kernel
theorem d_P_sellPlain_5 : decode prog_1_method_44_code 5 = .ok (.iload 4, 2) := by decide +kernel
theorem d_P_sellPlain_7 : decode prog_1_method_44_code 7 = .ok (.iload 5, 2) := by decide +kernel
theorem d_P_sellPlain_9 : decode prog_1_method_44_code 9 = .ok (.iload 6, 2) := by decide +kernel
theorem d_P_sellPlain_11 : decode prog_1_method_44_code 11 = .ok (.invokevirtual 305, 3) := by decide +kernel
theorem d_P_sellPlain_14 : decode prog_1_method_44_code 14 = .ok (.ireturn, 1) := by decide +kernel
theorem d_P_sellVague_0 : decode prog_1_method_45_code 0 = .ok (.aload_n 0, 1) := by decide +kernel
theorem d_P_sellVague_1 : decode prog_1_method_45_code 1 = .ok (.iload_n 1, 1) := by decide +kernel
theorem d_P_sellVague_2 : decode prog_1_method_45_code 2 = .ok (.iconst 1, 1) := by decide +kernel
theorem d_P_sellVague_3 : decode prog_1_method_45_code 3 = .ok (.iload_n 2, 1) := by decide +kernel
theorem d_P_sellVague_4 : decode prog_1_method_45_code 4 = .ok (.iconst (-1), 1) := by decide +kernel
theorem d_P_sellVague_5 : decode prog_1_method_45_code 5 = .ok (.iload_n 3, 1) := by decide +kernel
theorem d_P_sellVague_6 : decode prog_1_method_45_code 6 = .ok (.iload 4, 2) := by decide +kernel
theorem d_P_sellVague_8 : decode prog_1_method_45_code 8 = .ok (.iload 5, 2) := by decide +kernel
theorem d_P_sellVague_10 : decode prog_1_method_45_code 10 = .ok (.invokevirtual 305, 3) := by decide +kernel
theorem d_P_sellVague_13 : decode prog_1_method_45_code 13 = .ok (.ireturn, 1) := by decide +kernel
theorem d_P_stateOf_0 : decode prog_1_method_25_code 0 = .ok (.aload_n 0, 1) := by decide +kernel
theorem d_P_stateOf_1 : decode prog_1_method_25_code 1 = .ok (.iload_n 1, 1) := by decide +kernel
theorem d_P_stateOf_2 : decode prog_1_method_25_code 2 = .ok (.invokevirtual 198, 3) := by decide +kernel
theorem d_P_stateOf_5 : decode prog_1_method_25_code 5 = .ok (.getfield 222, 3) := by decide +kernel
theorem d_P_stateOf_8 : decode prog_1_method_25_code 8 = .ok (.ireturn, 1) := by decide +kernel
theorem d_P_timesHappened_0 : decode prog_1_method_15_code 0 = .ok (.aload_n 0, 1) := by decide +kernel
theorem d_P_timesHappened_1 : decode prog_1_method_15_code 1 = .ok (.getfield 35, 3) := by decide +kernel
theorem d_P_timesHappened_4 : decode prog_1_method_15_code 4 = .ok (.getfield 152, 3) := by decide +kernel
theorem d_P_timesHappened_7 : decode prog_1_method_15_code 7 = .ok (.iload_n 1, 1) := by decide +kernel
theorem d_P_timesHappened_8 : decode prog_1_method_15_code 8 = .ok (.invokevirtual 174, 3) := by decide +kernel
theorem d_P_timesHappened_11 : decode prog_1_method_15_code 11 = .ok (.ifCond .eq 21, 3) := by decide +kernel
theorem d_P_timesHappened_14 : decode prog_1_method_15_code 14 = .ok (.aload_n 0, 1) := by decide +kernel
theorem d_P_timesHappened_15 : decode prog_1_method_15_code 15 = .ok (.getfield 35, 3) := by decide +kernel
theorem d_P_timesHappened_18 : decode prog_1_method_15_code 18 = .ok (.getfield 161, 3) := by decide +kernel
theorem d_P_timesHappened_21 : decode prog_1_method_15_code 21 = .ok (.iload_n 2, 1) := by decide +kernel
theorem d_P_timesHappened_22 : decode prog_1_method_15_code 22 = .ok (.invokevirtual 174, 3) := by decide +kernel
theorem d_P_timesHappened_25 : decode prog_1_method_15_code 25 = .ok (.ifCond .eq 7, 3) := by decide +kernel
theorem d_P_timesHappened_28 : decode prog_1_method_15_code 28 = .ok (.iconst 1, 1) := by decide +kernel
theorem d_P_timesHappened_29 : decode prog_1_method_15_code 29 = .ok (.goto 4, 3) := by decide +kernel
theorem d_P_timesHappened_32 : decode prog_1_method_15_code 32 = .ok (.iconst 0, 1) := by decide +kernel
theorem d_P_timesHappened_33 : decode prog_1_method_15_code 33 = .ok (.invokestatic 178, 3) := by decide +kernel
theorem d_P_timesHappened_36 : decode prog_1_method_15_code 36 = .ok (.aload_n 0, 1) := by decide +kernel
theorem d_P_timesHappened_37 : decode prog_1_method_15_code 37 = .ok (.getfield 47, 3) := by decide +kernel
theorem d_P_timesHappened_40 : decode prog_1_method_15_code 40 = .ok (.iload_n 1, 1) := by decide +kernel
theorem d_P_timesHappened_41 : decode prog_1_method_15_code 41 = .ok (.iload_n 2, 1) := by decide +kernel
theorem d_P_timesHappened_42 : decode prog_1_method_15_code 42 = .ok (.invokevirtual 185, 3) := by decide +kernel
theorem d_P_timesHappened_45 : decode prog_1_method_15_code 45 = .ok (.ireturn, 1) := by decide +kernel
theorem d_P_truncate_0 : decode prog_1_method_3_code 0 = .ok (.iload_n 1, 1) := by decide +kernel
theorem d_P_truncate_1 : decode prog_1_method_3_code 1 = .ok (.iconst 0, 1) := by decide +kernel
theorem d_P_truncate_2 : decode prog_1_method_3_code 2 = .ok (.aload_n 0, 1) := by decide +kernel
theorem d_P_truncate_3 : decode prog_1_method_3_code 3 = .ok (.getfield 10, 3) := by decide +kernel
theorem d_P_truncate_6 : decode prog_1_method_3_code 6 = .ok (.invokevirtual 105, 3) := by decide +kernel
theorem d_P_truncate_9 : decode prog_1_method_3_code 9 = .ok (.invokestatic 118, 3) := by decide +kernel
theorem d_P_truncate_12 : decode prog_1_method_3_code 12 = .ok (.ifCond .ne 13, 3) := by decide +kernel
theorem d_P_truncate_15 : decode prog_1_method_3_code 15 = .ok (.new 122, 3) := by decide +kernel
theorem d_P_truncate_18 : decode prog_1_method_3_code 18 = .ok (.dup, 1) := by decide +kernel
theorem d_P_truncate_19 : decode prog_1_method_3_code 19 = .ok (.ldc 124, 2) := by decide +kernel
theorem d_P_truncate_21 : decode prog_1_method_3_code 21 = .ok (.invokespecial 126, 3) := by decide +kernel
theorem d_P_truncate_24 : decode prog_1_method_3_code 24 = .ok (.athrow, 1) := by decide +kernel
theorem d_P_truncate_25 : decode prog_1_method_3_code 25 = .ok (.aload_n 0, 1) := by decide +kernel
theorem d_P_truncate_26 : decode prog_1_method_3_code 26 = .ok (.getfield 10, 3) := by decide +kernel
theorem d_P_truncate_29 : decode prog_1_method_3_code 29 = .ok (.invokevirtual 105, 3) := by decide +kernel
theorem d_P_truncate_32 : decode prog_1_method_3_code 32 = .ok (.iload_n 1, 1) := by decide +kernel
theorem d_P_truncate_33 : decode prog_1_method_3_code 33 = .ok (.isub, 1) := by decide +kernel
theorem d_P_truncate_34 : decode prog_1_method_3_code 34 = .ok (.istore_n 2, 1) := by decide +kernel
theorem d_P_truncate_35 : decode prog_1_method_3_code 35 = .ok (.aload_n 0, 1) := by decide +kernel
theorem d_P_truncate_36 : decode prog_1_method_3_code 36 = .ok (.getfield 10, 3) := by decide +kernel
theorem d_P_truncate_39 : decode prog_1_method_3_code 39 = .ok (.iload_n 1, 1) := by decide +kernel
theorem d_P_truncate_40 : decode prog_1_method_3_code 40 = .ok (.invokevirtual 127, 3) := by decide +kernel
theorem d_P_truncate_43 : decode prog_1_method_3_code 43 = .ok (.iload_n 2, 1) := by decide +kernel
theorem d_P_truncate_44 : decode prog_1_method_3_code 44 = .ok (.ireturn, 1) := by decide +kernel
theorem d_P_truthShare_0 : decode prog_1_method_38_code 0 = .ok (.aload_n 0, 1) := by decide +kernel
theorem d_P_truthShare_1 : decode prog_1_method_38_code 1 = .ok (.getfield 47, 3) := by decide +kernel
theorem d_P_truthShare_4 : decode prog_1_method_38_code 4 = .ok (.getfield 195, 3) := by decide +kernel
theorem d_P_truthShare_7 : decode prog_1_method_38_code 7 = .ok (.aload_n 0, 1) := by decide +kernel
theorem d_P_truthShare_8 : decode prog_1_method_38_code 8 = .ok (.getfield 47, 3) := by decide +kernel
theorem d_P_truthShare_11 : decode prog_1_method_38_code 11 = .ok (.iconst 0, 1) := by decide +kernel
theorem d_P_truthShare_12 : decode prog_1_method_38_code 12 = .ok (.invokevirtual 269, 3) := by decide +kernel
theorem d_P_truthShare_15 : decode prog_1_method_38_code 15 = .ok (.isub, 1) := by decide +kernel
theorem d_P_truthShare_16 : decode prog_1_method_38_code 16 = .ok (.istore_n 1, 1) := by decide +kernel
theorem d_P_truthShare_17 : decode prog_1_method_38_code 17 = .ok (.iload_n 1, 1) := by decide +kernel
theorem d_P_truthShare_18 : decode prog_1_method_38_code 18 = .ok (.ifCond .ne 7, 3) := by decide +kernel
theorem d_P_truthShare_21 : decode prog_1_method_38_code 21 = .ok (.fconst 0, 1) := by decide +kernel
theorem d_P_truthShare_22 : decode prog_1_method_38_code 22 = .ok (.goto 15, 3) := by decide +kernel
theorem d_P_truthShare_25 : decode prog_1_method_38_code 25 = .ok (.aload_n 0, 1) := by decide +kernel
theorem d_P_truthShare_26 : decode prog_1_method_38_code 26 = .ok (.getfield 47, 3) := by decide +kernel
theorem d_P_truthShare_29 : decode prog_1_method_38_code 29 = .ok (.iconst 1, 1) := by decide +kernel
theorem d_P_truthShare_30 : decode prog_1_method_38_code 30 = .ok (.invokevirtual 269, 3) := by decide +kernel
theorem d_P_truthShare_33 : decode prog_1_method_38_code 33 = .ok (.i2f, 1) := by decide +kernel
theorem d_P_truthShare_34 : decode prog_1_method_38_code 34 = .ok (.iload_n 1, 1) := by decide +kernel
theorem d_P_truthShare_35 : decode prog_1_method_38_code 35 = .ok (.i2f, 1) := by decide +kernel
theorem d_P_truthShare_36 : decode prog_1_method_38_code 36 = .ok (.fdiv, 1) := by decide +kernel
theorem d_P_truthShare_37 : decode prog_1_method_38_code 37 = .ok (.freturn, 1) := by decide +kernel
theorem d_P_undo_0 : decode prog_1_method_54_code 0 = .ok (.aload_n 0, 1) := by decide +kernel
theorem d_P_undo_1 : decode prog_1_method_54_code 1 = .ok (.getfield 57, 3) := by decide +kernel
theorem d_P_undo_4 : decode prog_1_method_54_code 4 = .ok (.getfield 348, 3) := by decide +kernel
theorem d_P_undo_7 : decode prog_1_method_54_code 7 = .ok (.ifCond .ne 14, 3) := by decide +kernel
theorem d_P_undo_10 : decode prog_1_method_54_code 10 = .ok (.new 108, 3) := by decide +kernel
theorem d_P_undo_13 : decode prog_1_method_54_code 13 = .ok (.dup, 1) := by decide +kernel
theorem d_P_undo_14 : decode prog_1_method_54_code 14 = .ok (.ldc_w 349, 3) := by decide +kernel
theorem d_P_undo_17 : decode prog_1_method_54_code 17 = .ok (.invokespecial 112, 3) := by decide +kernel
theorem d_P_undo_20 : decode prog_1_method_54_code 20 = .ok (.athrow, 1) := by decide +kernel
theorem d_P_undo_21 : decode prog_1_method_54_code 21 = .ok (.aload_n 0, 1) := by decide +kernel
theorem d_P_undo_22 : decode prog_1_method_54_code 22 = .ok (.getfield 57, 3) := by decide +kernel
theorem d_P_undo_25 : decode prog_1_method_54_code 25 = .ok (.aload_n 0, 1) := by decide +kernel
theorem d_P_undo_26 : decode prog_1_method_54_code 26 = .ok (.getfield 47, 3) := by decide +kernel
theorem d_P_undo_29 : decode prog_1_method_54_code 29 = .ok (.invokevirtual 351, 3) := by decide +kernel
theorem d_P_undo_32 : decode prog_1_method_54_code 32 = .ok (.aload_n 0, 1) := by decide +kernel
theorem d_P_undo_33 : decode prog_1_method_54_code 33 = .ok (.getfield 57, 3) := by decide +kernel
theorem d_P_undo_36 : decode prog_1_method_54_code 36 = .ok (.getfield 348, 3) := by decide +kernel
theorem d_P_undo_39 : decode prog_1_method_54_code 39 = .ok (.ireturn, 1) := by decide +kernel
theorem d_P_undoCount_0 : decode prog_1_method_53_code 0 = .ok (.aload_n 0, 1) := by decide +kernel
theorem d_P_undoCount_1 : decode prog_1_method_53_code 1 = .ok (.getfield 57, 3) := by decide +kernel
theorem d_P_undoCount_4 : decode prog_1_method_53_code 4 = .ok (.getfield 348, 3) := by decide +kernel
theorem d_P_undoCount_7 : decode prog_1_method_53_code 7 = .ok (.ireturn, 1) := by decide +kernel
theorem d_R_in_0 : decode prog_14_method_4_code 0 = .ok (.iload_n 1, 1) := by decide +kernel
theorem d_R_in_1 : decode prog_14_method_4_code 1 = .ok (.iload_n 0, 1) := by decide +kernel
theorem d_R_in_2 : decode prog_14_method_4_code 2 = .ok (.if_icmp .gt 12, 3) := by decide +kernel
theorem d_R_in_5 : decode prog_14_method_4_code 5 = .ok (.iload_n 0, 1) := by decide +kernel
theorem d_R_in_6 : decode prog_14_method_4_code 6 = .ok (.iload_n 2, 1) := by decide +kernel
theorem d_R_in_7 : decode prog_14_method_4_code 7 = .ok (.if_icmp .gt 7, 3) := by decide +kernel
theorem d_R_in_10 : decode prog_14_method_4_code 10 = .ok (.iconst 1, 1) := by decide +kernel
theorem d_R_in_11 : decode prog_14_method_4_code 11 = .ok (.goto 4, 3) := by decide +kernel
theorem d_R_in_14 : decode prog_14_method_4_code 14 = .ok (.iconst 0, 1) := by decide +kernel
theorem d_R_in_15 : decode prog_14_method_4_code 15 = .ok (.ireturn, 1) := by decide +kernel
theorem d_R_right_0 : decode prog_14_method_5_code 0 = .ok (.aload_n 0, 1) := by decide +kernel
theorem d_R_right_1 : decode prog_14_method_5_code 1 = .ok (.getfield 73, 3) := by decide +kernel
theorem d_R_right_4 : decode prog_14_method_5_code 4 = .ok (.ifCond .ne 12, 3) := by decide +kernel
theorem d_R_right_7 : decode prog_14_method_5_code 7 = .ok (.iload_n 1, 1) := by decide +kernel
theorem d_R_right_8 : decode prog_14_method_5_code 8 = .ok (.ifCond .ne 8, 3) := by decide +kernel
theorem d_R_right_11 : decode prog_14_method_5_code 11 = .ok (.aload_n 0, 1) := by decide +kernel
theorem d_R_right_12 : decode prog_14_method_5_code 12 = .ok (.iload_n 2, 1) := by decide +kernel
theorem d_R_right_13 : decode prog_14_method_5_code 13 = .ok (.putfield 73, 3) := by decide +kernel
theorem d_R_right_16 : decode prog_14_method_5_code 16 = .ok (.aload_n 0, 1) := by decide +kernel
theorem d_R_right_17 : decode prog_14_method_5_code 17 = .ok (.getfield 73, 3) := by decide +kernel
theorem d_R_right_20 : decode prog_14_method_5_code 20 = .ok (.ifCond .ne 7, 3) := by decide +kernel
theorem d_R_right_23 : decode prog_14_method_5_code 23 = .ok (.iconst 1, 1) := by decide +kernel
theorem d_R_right_24 : decode prog_14_method_5_code 24 = .ok (.goto 4, 3) := by decide +kernel
theorem d_R_right_27 : decode prog_14_method_5_code 27 = .ok (.iconst 0, 1) := by decide +kernel
theorem d_R_right_28 : decode prog_14_method_5_code 28 = .ok (.ireturn, 1) := by decide +kernel
theorem d_R_keeps_0 : decode prog_14_method_114_code 0 = .ok (.aload_n 0, 1) := by decide +kernel
theorem d_R_keeps_1 : decode prog_14_method_114_code 1 = .ok (.getfield 233, 3) := by decide +kernel
theorem d_R_keeps_4 : decode prog_14_method_114_code 4 = .ok (.bipush 8, 2) := by decide +kernel
theorem d_R_keeps_6 : decode prog_14_method_114_code 6 = .ok (.if_icmp .ne 44, 3) := by decide +kernel
theorem d_R_keeps_9 : decode prog_14_method_114_code 9 = .ok (.iconst 0, 1) := by decide +kernel
theorem d_R_keeps_10 : decode prog_14_method_114_code 10 = .ok (.istore_n 1, 1) := by decide +kernel
theorem d_R_keeps_11 : decode prog_14_method_114_code 11 = .ok (.iload_n 1, 1) := by decide +kernel
theorem d_R_keeps_12 : decode prog_14_method_114_code 12 = .ok (.sipush 3668, 3) := by decide +kernel
theorem d_R_keeps_15 : decode prog_14_method_114_code 15 = .ok (.if_icmp .ge 25, 3) := by decide +kernel
theorem d_R_keeps_18 : decode prog_14_method_114_code 18 = .ok (.aload_n 0, 1) := by decide +kernel
theorem d_R_keeps_19 : decode prog_14_method_114_code 19 = .ok (.getfield 19, 3) := by decide +kernel
theorem d_R_keeps_22 : decode prog_14_method_114_code 22 = .ok (.iload_n 1, 1) := by decide +kernel
theorem d_R_keeps_23 : decode prog_14_method_114_code 23 = .ok (.aload_n 0, 1) := by decide +kernel
theorem d_R_keeps_24 : decode prog_14_method_114_code 24 = .ok (.getfield 19, 3) := by decide +kernel
theorem d_R_keeps_27 : decode prog_14_method_114_code 27 = .ok (.iload_n 1, 1) := by decide +kernel
theorem d_R_keeps_28 : decode prog_14_method_114_code 28 = .ok (.sipush 524, 3) := by decide +kernel
theorem d_R_keeps_31 : decode prog_14_method_114_code 31 = .ok (.iadd, 1) := by decide +kernel
theorem d_R_keeps_32 : decode prog_14_method_114_code 32 = .ok (.iaload, 1) := by decide +kernel
theorem d_R_keeps_33 : decode prog_14_method_114_code 33 = .ok (.iastore, 1) := by decide +kernel
theorem d_R_keeps_34 : decode prog_14_method_114_code 34 = .ok (.iinc 1 1, 3) := by decide +kernel
theorem d_R_keeps_37 : decode prog_14_method_114_code 37 = .ok (.goto (-26), 3) := by decide +kernel
theorem d_R_keeps_40 : decode prog_14_method_114_code 40 = .ok (.aload_n 0, 1) := by decide +kernel
theorem d_R_keeps_41 : decode prog_14_method_114_code 41 = .ok (.dup, 1) := by decide +kernel
theorem d_R_keeps_42 : decode prog_14_method_114_code 42 = .ok (.getfield 233, 3) := by decide +kernel
theorem d_R_keeps_45 : decode prog_14_method_114_code 45 = .ok (.iconst 1, 1) := by decide +kernel
theorem d_R_keeps_46 : decode prog_14_method_114_code 46 = .ok (.isub, 1) := by decide +kernel
theorem d_R_keeps_47 : decode prog_14_method_114_code 47 = .ok (.putfield 233, 3) := by decide +kernel
theorem d_R_keeps_50 : decode prog_14_method_114_code 50 = .ok (.iconst 0, 1) := by decide +kernel
theorem d_R_keeps_51 : decode prog_14_method_114_code 51 = .ok (.istore_n 1, 1) := by decide +kernel
theorem d_R_keeps_52 : decode prog_14_method_114_code 52 = .ok (.iload_n 1, 1) := by decide +kernel
theorem d_R_keeps_53 : decode prog_14_method_114_code 53 = .ok (.sipush 524, 3) := by decide +kernel
theorem d_R_keeps_56 : decode prog_14_method_114_code 56 = .ok (.if_icmp .ge 30, 3) := by decide +kernel
theorem d_R_keeps_59 : decode prog_14_method_114_code 59 = .ok (.aload_n 0, 1) := by decide +kernel
theorem d_R_keeps_60 : decode prog_14_method_114_code 60 = .ok (.getfield 19, 3) := by decide +kernel
theorem d_R_keeps_63 : decode prog_14_method_114_code 63 = .ok (.sipush 524, 3) := by decide +kernel
theorem d_R_keeps_66 : decode prog_14_method_114_code 66 = .ok (.aload_n 0, 1) := by decide +kernel
theorem d_R_keeps_67 : decode prog_14_method_114_code 67 = .ok (.getfield 233, 3) := by decide +kernel
theorem d_R_keeps_70 : decode prog_14_method_114_code 70 = .ok (.imul, 1) := by decide +kernel
theorem d_R_keeps_71 : decode prog_14_method_114_code 71 = .ok (.iload_n 1, 1) := by decide +kernel
theorem d_R_keeps_72 : decode prog_14_method_114_code 72 = .ok (.iadd, 1) := by decide +kernel
theorem d_R_keeps_73 : decode prog_14_method_114_code 73 = .ok (.aload_n 0, 1) := by decide +kernel
theorem d_R_keeps_74 : decode prog_14_method_114_code 74 = .ok (.getfield 7, 3) := by decide +kernel
theorem d_R_keeps_77 : decode prog_14_method_114_code 77 = .ok (.iload_n 1, 1) := by decide +kernel
theorem d_R_keeps_78 : decode prog_14_method_114_code 78 = .ok (.iaload, 1) := by decide +kernel
theorem d_R_keeps_79 : decode prog_14_method_114_code 79 = .ok (.iastore, 1) := by decide +kernel
theorem d_R_keeps_80 : decode prog_14_method_114_code 80 = .ok (.iinc 1 1, 3) := by decide +kernel
theorem d_R_keeps_83 : decode prog_14_method_114_code 83 = .ok (.goto (-31), 3) := by decide +kernel
theorem d_R_keeps_86 : decode prog_14_method_114_code 86 = .ok (.aload_n 0, 1) := by decide +kernel
theorem d_R_keeps_87 : decode prog_14_method_114_code 87 = .ok (.dup, 1) := by decide +kernel
theorem d_R_keeps_88 : decode prog_14_method_114_code 88 = .ok (.getfield 233, 3) := by decide +kernel
theorem d_R_keeps_91 : decode prog_14_method_114_code 91 = .ok (.iconst 1, 1) := by decide +kernel
theorem d_R_keeps_92 : decode prog_14_method_114_code 92 = .ok (.iadd, 1) := by decide +kernel
theorem d_R_keeps_93 : decode prog_14_method_114_code 93 = .ok (.putfield 233, 3) := by decide +kernel
theorem d_R_keeps_96 : decode prog_14_method_114_code 96 = .ok (.return_, 1) := by decide +kernel
theorem d_R_changes_0 : decode prog_14_method_115_code 0 = .ok (.aload_n 0, 1) := by decide +kernel
theorem d_R_changes_1 : decode prog_14_method_115_code 1 = .ok (.getfield 320, 3) := by decide +kernel
theorem d_R_changes_4 : decode prog_14_method_115_code 4 = .ok (.ifCond .ne 7, 3) := by decide +kernel
theorem d_R_changes_7 : decode prog_14_method_115_code 7 = .ok (.aload_n 0, 1) := by decide +kernel
theorem d_R_changes_8 : decode prog_14_method_115_code 8 = .ok (.invokevirtual 317, 3) := by decide +kernel
theorem d_R_changes_11 : decode prog_14_method_115_code 11 = .ok (.return_, 1) := by decide +kernel
theorem d_R_of_0 : decode prog_14_method_9_code 0 = .ok (.aload_n 0, 1) := by decide +kernel
theorem d_R_of_1 : decode prog_14_method_9_code 1 = .ok (.getfield 7, 3) := by decide +kernel
theorem d_R_of_4 : decode prog_14_method_9_code 4 = .ok (.bipush 80, 2) := by decide +kernel
theorem d_R_of_6 : decode prog_14_method_9_code 6 = .ok (.bipush 10, 2) := by decide +kernel
theorem d_R_of_8 : decode prog_14_method_9_code 8 = .ok (.iload_n 1, 1) := by decide +kernel
theorem d_R_of_9 : decode prog_14_method_9_code 9 = .ok (.imul, 1) := by decide +kernel
theorem d_R_of_10 : decode prog_14_method_9_code 10 = .ok (.iadd, 1) := by decide +kernel
theorem d_R_of_11 : decode prog_14_method_9_code 11 = .ok (.iload_n 2, 1) := by decide +kernel
theorem d_R_of_12 : decode prog_14_method_9_code 12 = .ok (.iadd, 1) := by decide +kernel
theorem d_R_of_13 : decode prog_14_method_9_code 13 = .ok (.iaload, 1) := by decide +kernel
theorem d_R_of_14 : decode prog_14_method_9_code 14 = .ok (.ireturn, 1) := by decide +kernel
theorem d_R_puts_0 : decode prog_14_method_10_code 0 = .ok (.aload_n 0, 1) := by decide +kernel
theorem d_R_puts_1 : decode prog_14_method_10_code 1 = .ok (.getfield 7, 3) := by decide +kernel
theorem d_R_puts_4 : decode prog_14_method_10_code 4 = .ok (.bipush 80, 2) := by decide +kernel
theorem d_R_puts_6 : decode prog_14_method_10_code 6 = .ok (.bipush 10, 2) := by decide +kernel
theorem d_R_puts_8 : decode prog_14_method_10_code 8 = .ok (.iload_n 1, 1) := by decide +kernel
theorem d_R_puts_9 : decode prog_14_method_10_code 9 = .ok (.imul, 1) := by decide +kernel
theorem d_R_puts_10 : decode prog_14_method_10_code 10 = .ok (.iadd, 1) := by decide +kernel
theorem d_R_puts_11 : decode prog_14_method_10_code 11 = .ok (.iload_n 2, 1) := by decide +kernel
theorem d_R_puts_12 : decode prog_14_method_10_code 12 = .ok (.iadd, 1) := by decide +kernel
theorem d_R_puts_13 : decode prog_14_method_10_code 13 = .ok (.iload_n 3, 1) := by decide +kernel
theorem d_R_puts_14 : decode prog_14_method_10_code 14 = .ok (.iastore, 1) := by decide +kernel
theorem d_R_puts_15 : decode prog_14_method_10_code 15 = .ok (.return_, 1) := by decide +kernel
theorem d_R_decides_0 : decode prog_14_method_16_code 0 = .ok (.aload_n 0, 1) := by decide +kernel
theorem d_R_decides_1 : decode prog_14_method_16_code 1 = .ok (.iload_n 1, 1) := by decide +kernel
theorem d_R_decides_2 : decode prog_14_method_16_code 2 = .ok (.bipush 7, 2) := by decide +kernel
theorem d_R_decides_4 : decode prog_14_method_16_code 4 = .ok (.iload_n 2, 1) := by decide +kernel
theorem d_R_decides_5 : decode prog_14_method_16_code 5 = .ok (.ifCond .eq 7, 3) := by decide +kernel
theorem d_R_decides_8 : decode prog_14_method_16_code 8 = .ok (.iconst 1, 1) := by decide +kernel
theorem d_R_decides_9 : decode prog_14_method_16_code 9 = .ok (.goto 4, 3) := by decide +kernel
theorem d_R_decides_12 : decode prog_14_method_16_code 12 = .ok (.iconst 2, 1) := by decide +kernel
theorem d_R_decides_13 : decode prog_14_method_16_code 13 = .ok (.invokevirtual 80, 3) := by decide +kernel
theorem d_R_decides_16 : decode prog_14_method_16_code 16 = .ok (.aload_n 0, 1) := by decide +kernel
theorem d_R_decides_17 : decode prog_14_method_16_code 17 = .ok (.iload_n 1, 1) := by decide +kernel
theorem d_R_decides_18 : decode prog_14_method_16_code 18 = .ok (.bipush 8, 2) := by decide +kernel
theorem d_R_decides_20 : decode prog_14_method_16_code 20 = .ok (.aload_n 0, 1) := by decide +kernel
theorem d_R_decides_21 : decode prog_14_method_16_code 21 = .ok (.getfield 7, 3) := by decide +kernel
theorem d_R_decides_24 : decode prog_14_method_16_code 24 = .ok (.iconst 5, 1) := by decide +kernel
theorem d_R_decides_25 : decode prog_14_method_16_code 25 = .ok (.iaload, 1) := by decide +kernel
theorem d_R_decides_26 : decode prog_14_method_16_code 26 = .ok (.invokevirtual 80, 3) := by decide +kernel
theorem d_R_decides_29 : decode prog_14_method_16_code 29 = .ok (.return_, 1) := by decide +kernel
theorem d_R_ofOwl_0 : decode prog_14_method_7_code 0 = .ok (.aload_n 0, 1) := by decide +kernel
theorem d_R_ofOwl_1 : decode prog_14_method_7_code 1 = .ok (.getfield 7, 3) := by decide +kernel
theorem d_R_ofOwl_4 : decode prog_14_method_7_code 4 = .ok (.bipush 52, 2) := by decide +kernel
theorem d_R_ofOwl_6 : decode prog_14_method_7_code 6 = .ok (.iconst 5, 1) := by decide +kernel
theorem d_R_ofOwl_7 : decode prog_14_method_7_code 7 = .ok (.iload_n 1, 1) := by decide +kernel
theorem d_R_ofOwl_8 : decode prog_14_method_7_code 8 = .ok (.imul, 1) := by decide +kernel
theorem d_R_ofOwl_9 : decode prog_14_method_7_code 9 = .ok (.iadd, 1) := by decide +kernel
theorem d_R_ofOwl_10 : decode prog_14_method_7_code 10 = .ok (.iload_n 2, 1) := by decide +kernel
theorem d_R_ofOwl_11 : decode prog_14_method_7_code 11 = .ok (.iadd, 1) := by decide +kernel
theorem d_R_ofOwl_12 : decode prog_14_method_7_code 12 = .ok (.iaload, 1) := by decide +kernel
theorem d_R_ofOwl_13 : decode prog_14_method_7_code 13 = .ok (.ireturn, 1) := by decide +kernel
theorem d_R_putOwl_0 : decode prog_14_method_8_code 0 = .ok (.aload_n 0, 1) := by decide +kernel
theorem d_R_putOwl_1 : decode prog_14_method_8_code 1 = .ok (.getfield 7, 3) := by decide +kernel
theorem d_R_putOwl_4 : decode prog_14_method_8_code 4 = .ok (.bipush 52, 2) := by decide +kernel
theorem d_R_putOwl_6 : decode prog_14_method_8_code 6 = .ok (.iconst 5, 1) := by decide +kernel
theorem d_R_putOwl_7 : decode prog_14_method_8_code 7 = .ok (.iload_n 1, 1) := by decide +kernel
theorem d_R_putOwl_8 : decode prog_14_method_8_code 8 = .ok (.imul, 1) := by decide +kernel
theorem d_R_putOwl_9 : decode prog_14_method_8_code 9 = .ok (.iadd, 1) := by decide +kernel
theorem d_R_putOwl_10 : decode prog_14_method_8_code 10 = .ok (.iload_n 2, 1) := by decide +kernel
theorem d_R_putOwl_11 : decode prog_14_method_8_code 11 = .ok (.iadd, 1) := by decide +kernel
theorem d_R_putOwl_12 : decode prog_14_method_8_code 12 = .ok (.iload_n 3, 1) := by decide +kernel
theorem d_R_putOwl_13 : decode prog_14_method_8_code 13 = .ok (.iastore, 1) := by decide +kernel
theorem d_R_putOwl_14 : decode prog_14_method_8_code 14 = .ok (.return_, 1) := by decide +kernel
theorem d_R_lands_0 : decode prog_14_method_24_code 0 = .ok (.aload_n 0, 1) := by decide +kernel
theorem d_R_lands_1 : decode prog_14_method_24_code 1 = .ok (.iload_n 1, 1) := by decide +kernel
theorem d_R_lands_2 : decode prog_14_method_24_code 2 = .ok (.iconst 3, 1) := by decide +kernel
theorem d_R_lands_3 : decode prog_14_method_24_code 3 = .ok (.invokevirtual 95, 3) := by decide +kernel
theorem d_R_lands_6 : decode prog_14_method_24_code 6 = .ok (.istore_n 2, 1) := by decide +kernel
theorem d_R_lands_7 : decode prog_14_method_24_code 7 = .ok (.iload_n 2, 1) := by decide +kernel
theorem d_R_lands_8 : decode prog_14_method_24_code 8 = .ok (.iconst (-1), 1) := by decide +kernel
theorem d_R_lands_9 : decode prog_14_method_24_code 9 = .ok (.if_icmp .ne 4, 3) := by decide +kernel
theorem d_R_lands_12 : decode prog_14_method_24_code 12 = .ok (.return_, 1) := by decide +kernel
theorem d_R_lands_13 : decode prog_14_method_24_code 13 = .ok (.aload_n 0, 1) := by decide +kernel
theorem d_R_lands_14 : decode prog_14_method_24_code 14 = .ok (.getfield 7, 3) := by decide +kernel
theorem d_R_lands_17 : decode prog_14_method_24_code 17 = .ok (.bipush 28, 2) := by decide +kernel
theorem d_R_lands_19 : decode prog_14_method_24_code 19 = .ok (.iconst 3, 1) := by decide +kernel
theorem d_R_lands_20 : decode prog_14_method_24_code 20 = .ok (.iload_n 2, 1) := by decide +kernel
theorem d_R_lands_21 : decode prog_14_method_24_code 21 = .ok (.imul, 1) := by decide +kernel
theorem d_R_lands_22 : decode prog_14_method_24_code 22 = .ok (.iadd, 1) := by decide +kernel
theorem d_R_lands_23 : decode prog_14_method_24_code 23 = .ok (.iconst 1, 1) := by decide +kernel
theorem d_R_lands_24 : decode prog_14_method_24_code 24 = .ok (.iadd, 1) := by decide +kernel
theorem d_R_lands_25 : decode prog_14_method_24_code 25 = .ok (.dup2, 1) := by decide +kernel
theorem d_R_lands_26 : decode prog_14_method_24_code 26 = .ok (.iaload, 1) := by decide +kernel
theorem d_R_lands_27 : decode prog_14_method_24_code 27 = .ok (.aload_n 0, 1) := by decide +kernel
theorem d_R_lands_28 : decode prog_14_method_24_code 28 = .ok (.iload_n 1, 1) := by decide +kernel
theorem d_R_lands_29 : decode prog_14_method_24_code 29 = .ok (.iconst 2, 1) := by decide +kernel
theorem d_R_lands_30 : decode prog_14_method_24_code 30 = .ok (.invokevirtual 95, 3) := by decide +kernel
theorem d_R_lands_33 : decode prog_14_method_24_code 33 = .ok (.iadd, 1) := by decide +kernel
theorem d_R_lands_34 : decode prog_14_method_24_code 34 = .ok (.iastore, 1) := by decide +kernel
theorem d_R_lands_35 : decode prog_14_method_24_code 35 = .ok (.aload_n 0, 1) := by decide +kernel
theorem d_R_lands_36 : decode prog_14_method_24_code 36 = .ok (.iload_n 1, 1) := by decide +kernel
theorem d_R_lands_37 : decode prog_14_method_24_code 37 = .ok (.iconst 2, 1) := by decide +kernel
theorem d_R_lands_38 : decode prog_14_method_24_code 38 = .ok (.iconst 0, 1) := by decide +kernel
theorem d_R_lands_39 : decode prog_14_method_24_code 39 = .ok (.invokevirtual 104, 3) := by decide +kernel
theorem d_R_lands_42 : decode prog_14_method_24_code 42 = .ok (.aload_n 0, 1) := by decide +kernel
theorem d_R_lands_43 : decode prog_14_method_24_code 43 = .ok (.iload_n 1, 1) := by decide +kernel
theorem d_R_lands_44 : decode prog_14_method_24_code 44 = .ok (.iconst 3, 1) := by decide +kernel
theorem d_R_lands_45 : decode prog_14_method_24_code 45 = .ok (.iconst (-1), 1) := by decide +kernel
theorem d_R_lands_46 : decode prog_14_method_24_code 46 = .ok (.invokevirtual 104, 3) := by decide +kernel
theorem d_R_lands_49 : decode prog_14_method_24_code 49 = .ok (.aload_n 0, 1) := by decide +kernel
theorem d_R_lands_50 : decode prog_14_method_24_code 50 = .ok (.iload_n 1, 1) := by decide +kernel
theorem d_R_lands_51 : decode prog_14_method_24_code 51 = .ok (.iconst 1, 1) := by decide +kernel
theorem d_R_lands_52 : decode prog_14_method_24_code 52 = .ok (.aload_n 0, 1) := by decide +kernel
theorem d_R_lands_53 : decode prog_14_method_24_code 53 = .ok (.iload_n 1, 1) := by decide +kernel
theorem d_R_lands_54 : decode prog_14_method_24_code 54 = .ok (.iconst 4, 1) := by decide +kernel
theorem d_R_lands_55 : decode prog_14_method_24_code 55 = .ok (.invokevirtual 95, 3) := by decide +kernel
theorem d_R_lands_58 : decode prog_14_method_24_code 58 = .ok (.invokevirtual 104, 3) := by decide +kernel
theorem d_R_lands_61 : decode prog_14_method_24_code 61 = .ok (.return_, 1) := by decide +kernel
theorem d_R_refund_0 : decode prog_14_method_19_code 0 = .ok (.aload_n 0, 1) := by decide +kernel
theorem d_R_refund_1 : decode prog_14_method_19_code 1 = .ok (.iload_n 1, 1) := by decide +kernel
theorem d_R_refund_2 : decode prog_14_method_19_code 2 = .ok (.bipush 6, 2) := by decide +kernel
theorem d_R_refund_4 : decode prog_14_method_19_code 4 = .ok (.invokevirtual 84, 3) := by decide +kernel
theorem d_R_refund_7 : decode prog_14_method_19_code 7 = .ok (.aload_n 0, 1) := by decide +kernel
theorem d_R_refund_8 : decode prog_14_method_19_code 8 = .ok (.getfield 7, 3) := by decide +kernel
theorem d_R_refund_11 : decode prog_14_method_19_code 11 = .ok (.aload_n 0, 1) := by decide +kernel
theorem d_R_refund_12 : decode prog_14_method_19_code 12 = .ok (.iload_n 1, 1) := by decide +kernel
theorem d_R_refund_13 : decode prog_14_method_19_code 13 = .ok (.iconst 2, 1) := by decide +kernel
theorem d_R_refund_14 : decode prog_14_method_19_code 14 = .ok (.invokevirtual 84, 3) := by decide +kernel
theorem d_R_refund_17 : decode prog_14_method_19_code 17 = .ok (.iconst (-1), 1) := by decide +kernel
theorem d_R_refund_18 : decode prog_14_method_19_code 18 = .ok (.if_icmp .ne 7, 3) := by decide +kernel
theorem d_R_refund_21 : decode prog_14_method_19_code 21 = .ok (.iconst 4, 1) := by decide +kernel
theorem d_R_refund_22 : decode prog_14_method_19_code 22 = .ok (.goto 4, 3) := by decide +kernel
theorem d_R_refund_25 : decode prog_14_method_19_code 25 = .ok (.iconst 3, 1) := by decide +kernel
theorem d_R_refund_26 : decode prog_14_method_19_code 26 = .ok (.iaload, 1) := by decide +kernel
theorem d_R_refund_27 : decode prog_14_method_19_code 27 = .ok (.imul, 1) := by decide +kernel
theorem d_R_refund_28 : decode prog_14_method_19_code 28 = .ok (.bipush 100, 2) := by decide +kernel
theorem d_R_refund_30 : decode prog_14_method_19_code 30 = .ok (.idiv, 1) := by decide +kernel
theorem d_R_refund_31 : decode prog_14_method_19_code 31 = .ok (.ireturn, 1) := by decide +kernel
theorem d_R_wouldAnswer_0 : decode prog_14_method_20_code 0 = .ok (.aload_n 0, 1) := by decide +kernel
theorem d_R_wouldAnswer_1 : decode prog_14_method_20_code 1 = .ok (.iload_n 1, 1) := by decide +kernel
theorem d_R_wouldAnswer_2 : decode prog_14_method_20_code 2 = .ok (.bipush 7, 2) := by decide +kernel
theorem d_R_wouldAnswer_4 : decode prog_14_method_20_code 4 = .ok (.invokevirtual 84, 3) := by decide +kernel
theorem d_R_wouldAnswer_7 : decode prog_14_method_20_code 7 = .ok (.istore_n 2, 1) := by decide +kernel
theorem d_R_wouldAnswer_8 : decode prog_14_method_20_code 8 = .ok (.iload_n 2, 1) := by decide +kernel
theorem d_R_wouldAnswer_9 : decode prog_14_method_20_code 9 = .ok (.ifCond .ne 5, 3) := by decide +kernel
theorem d_R_wouldAnswer_12 : decode prog_14_method_20_code 12 = .ok (.iconst 2, 1) := by decide +kernel
theorem d_R_wouldAnswer_13 : decode prog_14_method_20_code 13 = .ok (.ireturn, 1) := by decide +kernel
theorem d_R_wouldAnswer_14 : decode prog_14_method_20_code 14 = .ok (.iload_n 2, 1) := by decide +kernel
theorem d_R_wouldAnswer_15 : decode prog_14_method_20_code 15 = .ok (.iconst 1, 1) := by decide +kernel
theorem d_R_wouldAnswer_16 : decode prog_14_method_20_code 16 = .ok (.if_icmp .ne 5, 3) := by decide +kernel
theorem d_R_wouldAnswer_19 : decode prog_14_method_20_code 19 = .ok (.iconst 3, 1) := by decide +kernel
theorem d_R_wouldAnswer_20 : decode prog_14_method_20_code 20 = .ok (.ireturn, 1) := by decide +kernel
theorem d_R_wouldAnswer_21 : decode prog_14_method_20_code 21 = .ok (.iload_n 2, 1) := by decide +kernel
theorem d_R_wouldAnswer_22 : decode prog_14_method_20_code 22 = .ok (.iconst 3, 1) := by decide +kernel
theorem d_R_wouldAnswer_23 : decode prog_14_method_20_code 23 = .ok (.if_icmp .ne 5, 3) := by decide +kernel
theorem d_R_wouldAnswer_26 : decode prog_14_method_20_code 26 = .ok (.iconst 4, 1) := by decide +kernel
theorem d_R_wouldAnswer_27 : decode prog_14_method_20_code 27 = .ok (.ireturn, 1) := by decide +kernel
theorem d_R_wouldAnswer_28 : decode prog_14_method_20_code 28 = .ok (.aload_n 0, 1) := by decide +kernel
theorem d_R_wouldAnswer_29 : decode prog_14_method_20_code 29 = .ok (.getfield 7, 3) := by decide +kernel
theorem d_R_wouldAnswer_32 : decode prog_14_method_20_code 32 = .ok (.iconst 5, 1) := by decide +kernel
theorem d_R_wouldAnswer_33 : decode prog_14_method_20_code 33 = .ok (.iaload, 1) := by decide +kernel
theorem d_R_wouldAnswer_34 : decode prog_14_method_20_code 34 = .ok (.aload_n 0, 1) := by decide +kernel
theorem d_R_wouldAnswer_35 : decode prog_14_method_20_code 35 = .ok (.iload_n 1, 1) := by decide +kernel
theorem d_R_wouldAnswer_36 : decode prog_14_method_20_code 36 = .ok (.bipush 8, 2) := by decide +kernel
theorem d_R_wouldAnswer_38 : decode prog_14_method_20_code 38 = .ok (.invokevirtual 84, 3) := by decide +kernel
theorem d_R_wouldAnswer_41 : decode prog_14_method_20_code 41 = .ok (.isub, 1) := by decide +kernel
theorem d_R_wouldAnswer_42 : decode prog_14_method_20_code 42 = .ok (.aload_n 0, 1) := by decide +kernel
theorem d_R_wouldAnswer_43 : decode prog_14_method_20_code 43 = .ok (.getfield 7, 3) := by decide +kernel
theorem d_R_wouldAnswer_46 : decode prog_14_method_20_code 46 = .ok (.iconst 2, 1) := by decide +kernel
theorem d_R_wouldAnswer_47 : decode prog_14_method_20_code 47 = .ok (.iaload, 1) := by decide +kernel
theorem d_R_wouldAnswer_48 : decode prog_14_method_20_code 48 = .ok (.if_icmp .le 5, 3) := by decide +kernel
theorem d_R_wouldAnswer_51 : decode prog_14_method_20_code 51 = .ok (.iconst 5, 1) := by decide +kernel
theorem d_R_wouldAnswer_52 : decode prog_14_method_20_code 52 = .ok (.ireturn, 1) := by decide +kernel
theorem d_R_wouldAnswer_53 : decode prog_14_method_20_code 53 = .ok (.aload_n 0, 1) := by decide +kernel
theorem d_R_wouldAnswer_54 : decode prog_14_method_20_code 54 = .ok (.getfield 7, 3) := by decide +kernel
theorem d_R_wouldAnswer_57 : decode prog_14_method_20_code 57 = .ok (.iconst 0, 1) := by decide +kernel
theorem d_R_wouldAnswer_58 : decode prog_14_method_20_code 58 = .ok (.iaload, 1) := by decide +kernel
theorem d_R_wouldAnswer_59 : decode prog_14_method_20_code 59 = .ok (.aload_n 0, 1) := by decide +kernel
theorem d_R_wouldAnswer_60 : decode prog_14_method_20_code 60 = .ok (.iload_n 1, 1) := by decide +kernel
theorem d_R_wouldAnswer_61 : decode prog_14_method_20_code 61 = .ok (.invokevirtual 91, 3) := by decide +kernel
theorem d_R_wouldAnswer_64 : decode prog_14_method_20_code 64 = .ok (.if_icmp .ge 8, 3) := by decide +kernel
theorem d_R_wouldAnswer_67 : decode prog_14_method_20_code 67 = .ok (.bipush 6, 2) := by decide +kernel
theorem d_R_wouldAnswer_69 : decode prog_14_method_20_code 69 = .ok (.goto 4, 3) := by decide +kernel
theorem d_R_wouldAnswer_72 : decode prog_14_method_20_code 72 = .ok (.iconst 1, 1) := by decide +kernel
theorem d_R_wouldAnswer_73 : decode prog_14_method_20_code 73 = .ok (.ireturn, 1) := by decide +kernel
theorem d_R_idle_0 : decode prog_14_method_21_code 0 = .ok (.iconst 0, 1) := by decide +kernel
theorem d_R_idle_1 : decode prog_14_method_21_code 1 = .ok (.istore_n 1, 1) := by decide +kernel
theorem d_R_idle_2 : decode prog_14_method_21_code 2 = .ok (.iload_n 1, 1) := by decide +kernel
theorem d_R_idle_3 : decode prog_14_method_21_code 3 = .ok (.aload_n 0, 1) := by decide +kernel
theorem d_R_idle_4 : decode prog_14_method_21_code 4 = .ok (.getfield 7, 3) := by decide +kernel
theorem d_R_idle_7 : decode prog_14_method_21_code 7 = .ok (.bipush 9, 2) := by decide +kernel
theorem d_R_idle_9 : decode prog_14_method_21_code 9 = .ok (.iaload, 1) := by decide +kernel
theorem d_R_idle_10 : decode prog_14_method_21_code 10 = .ok (.if_icmp .ge 20, 3) := by decide +kernel
theorem d_R_idle_13 : decode prog_14_method_21_code 13 = .ok (.aload_n 0, 1) := by decide +kernel
theorem d_R_idle_14 : decode prog_14_method_21_code 14 = .ok (.iload_n 1, 1) := by decide +kernel
theorem d_R_idle_15 : decode prog_14_method_21_code 15 = .ok (.iconst 1, 1) := by decide +kernel
theorem d_R_idle_16 : decode prog_14_method_21_code 16 = .ok (.invokevirtual 95, 3) := by decide +kernel
theorem d_R_idle_19 : decode prog_14_method_21_code 19 = .ok (.ifCond .ne 5, 3) := by decide +kernel
theorem d_R_idle_22 : decode prog_14_method_21_code 22 = .ok (.iload_n 1, 1) := by decide +kernel
theorem d_R_idle_23 : decode prog_14_method_21_code 23 = .ok (.ireturn, 1) := by decide +kernel
theorem d_R_idle_24 : decode prog_14_method_21_code 24 = .ok (.iinc 1 1, 3) := by decide +kernel
theorem d_R_idle_27 : decode prog_14_method_21_code 27 = .ok (.goto (-25), 3) := by decide +kernel
theorem d_R_idle_30 : decode prog_14_method_21_code 30 = .ok (.iconst (-1), 1) := by decide +kernel
theorem d_R_idle_31 : decode prog_14_method_21_code 31 = .ok (.ireturn, 1) := by decide +kernel
theorem d_R_ofCustomer_0 : decode prog_14_method_6_code 0 = .ok (.aload_n 0, 1) := by decide +kernel
theorem d_R_ofCustomer_1 : decode prog_14_method_6_code 1 = .ok (.getfield 7, 3) := by decide +kernel
theorem d_R_ofCustomer_4 : decode prog_14_method_6_code 4 = .ok (.bipush 28, 2) := by decide +kernel
theorem d_R_ofCustomer_6 : decode prog_14_method_6_code 6 = .ok (.iconst 3, 1) := by decide +kernel
theorem d_R_ofCustomer_7 : decode prog_14_method_6_code 7 = .ok (.iload_n 1, 1) := by decide +kernel
theorem d_R_ofCustomer_8 : decode prog_14_method_6_code 8 = .ok (.imul, 1) := by decide +kernel
theorem d_R_ofCustomer_9 : decode prog_14_method_6_code 9 = .ok (.iadd, 1) := by decide +kernel
theorem d_R_ofCustomer_10 : decode prog_14_method_6_code 10 = .ok (.iload_n 2, 1) := by decide +kernel
theorem d_R_ofCustomer_11 : decode prog_14_method_6_code 11 = .ok (.iadd, 1) := by decide +kernel
theorem d_R_ofCustomer_12 : decode prog_14_method_6_code 12 = .ok (.iaload, 1) := by decide +kernel
theorem d_R_ofCustomer_13 : decode prog_14_method_6_code 13 = .ok (.ireturn, 1) := by decide +kernel
theorem d_R_flies_0 : decode prog_14_method_22_code 0 = .ok (.aload_n 0, 1) := by decide +kernel
theorem d_R_flies_1 : decode prog_14_method_22_code 1 = .ok (.invokevirtual 98, 3) := by decide +kernel
theorem d_R_flies_4 : decode prog_14_method_22_code 4 = .ok (.istore_n 2, 1) := by decide +kernel
theorem d_R_flies_5 : decode prog_14_method_22_code 5 = .ok (.aload_n 0, 1) := by decide +kernel
theorem d_R_flies_6 : decode prog_14_method_22_code 6 = .ok (.aload_n 0, 1) := by decide +kernel
theorem d_R_flies_7 : decode prog_14_method_22_code 7 = .ok (.iload_n 1, 1) := by decide +kernel
theorem d_R_flies_8 : decode prog_14_method_22_code 8 = .ok (.iconst 0, 1) := by decide +kernel
theorem d_R_flies_9 : decode prog_14_method_22_code 9 = .ok (.invokevirtual 84, 3) := by decide +kernel
theorem d_R_flies_12 : decode prog_14_method_22_code 12 = .ok (.iconst 2, 1) := by decide +kernel
theorem d_R_flies_13 : decode prog_14_method_22_code 13 = .ok (.invokevirtual 101, 3) := by decide +kernel
theorem d_R_flies_16 : decode prog_14_method_22_code 16 = .ok (.istore_n 3, 1) := by decide +kernel
theorem d_R_flies_17 : decode prog_14_method_22_code 17 = .ok (.iload_n 3, 1) := by decide +kernel
theorem d_R_flies_18 : decode prog_14_method_22_code 18 = .ok (.aload_n 0, 1) := by decide +kernel
theorem d_R_flies_19 : decode prog_14_method_22_code 19 = .ok (.iload_n 2, 1) := by decide +kernel
theorem d_R_flies_20 : decode prog_14_method_22_code 20 = .ok (.iconst 0, 1) := by decide +kernel
theorem d_R_flies_21 : decode prog_14_method_22_code 21 = .ok (.invokevirtual 95, 3) := by decide +kernel
theorem d_R_flies_24 : decode prog_14_method_22_code 24 = .ok (.iadd, 1) := by decide +kernel
theorem d_R_flies_25 : decode prog_14_method_22_code 25 = .ok (.iconst 1, 1) := by decide +kernel
theorem d_R_flies_26 : decode prog_14_method_22_code 26 = .ok (.isub, 1) := by decide +kernel
theorem d_R_flies_27 : decode prog_14_method_22_code 27 = .ok (.aload_n 0, 1) := by decide +kernel
theorem d_R_flies_28 : decode prog_14_method_22_code 28 = .ok (.iload_n 2, 1) := by decide +kernel
theorem d_R_flies_29 : decode prog_14_method_22_code 29 = .ok (.iconst 0, 1) := by decide +kernel
theorem d_R_flies_30 : decode prog_14_method_22_code 30 = .ok (.invokevirtual 95, 3) := by decide +kernel
theorem d_R_flies_33 : decode prog_14_method_22_code 33 = .ok (.idiv, 1) := by decide +kernel
theorem d_R_flies_34 : decode prog_14_method_22_code 34 = .ok (.istore 4, 2) := by decide +kernel
theorem d_R_flies_36 : decode prog_14_method_22_code 36 = .ok (.aload_n 0, 1) := by decide +kernel
theorem d_R_flies_37 : decode prog_14_method_22_code 37 = .ok (.iload_n 2, 1) := by decide +kernel
theorem d_R_flies_38 : decode prog_14_method_22_code 38 = .ok (.iconst 1, 1) := by decide +kernel
theorem d_R_flies_39 : decode prog_14_method_22_code 39 = .ok (.iload 4, 2) := by decide +kernel
theorem d_R_flies_41 : decode prog_14_method_22_code 41 = .ok (.invokevirtual 104, 3) := by decide +kernel
theorem d_R_flies_44 : decode prog_14_method_22_code 44 = .ok (.aload_n 0, 1) := by decide +kernel
theorem d_R_flies_45 : decode prog_14_method_22_code 45 = .ok (.iload_n 2, 1) := by decide +kernel
theorem d_R_flies_46 : decode prog_14_method_22_code 46 = .ok (.iconst 4, 1) := by decide +kernel
theorem d_R_flies_47 : decode prog_14_method_22_code 47 = .ok (.iload 4, 2) := by decide +kernel
theorem d_R_flies_49 : decode prog_14_method_22_code 49 = .ok (.invokevirtual 104, 3) := by decide +kernel
theorem d_R_flies_52 : decode prog_14_method_22_code 52 = .ok (.aload_n 0, 1) := by decide +kernel
theorem d_R_flies_53 : decode prog_14_method_22_code 53 = .ok (.iload_n 2, 1) := by decide +kernel
theorem d_R_flies_54 : decode prog_14_method_22_code 54 = .ok (.iconst 2, 1) := by decide +kernel
theorem d_R_flies_55 : decode prog_14_method_22_code 55 = .ok (.aload_n 0, 1) := by decide +kernel
theorem d_R_flies_56 : decode prog_14_method_22_code 56 = .ok (.iload_n 1, 1) := by decide +kernel
theorem d_R_flies_57 : decode prog_14_method_22_code 57 = .ok (.invokevirtual 91, 3) := by decide +kernel
theorem d_R_flies_60 : decode prog_14_method_22_code 60 = .ok (.invokevirtual 104, 3) := by decide +kernel
theorem d_R_flies_63 : decode prog_14_method_22_code 63 = .ok (.aload_n 0, 1) := by decide +kernel
theorem d_R_flies_64 : decode prog_14_method_22_code 64 = .ok (.iload_n 2, 1) := by decide +kernel
theorem d_R_flies_65 : decode prog_14_method_22_code 65 = .ok (.iconst 3, 1) := by decide +kernel
theorem d_R_flies_66 : decode prog_14_method_22_code 66 = .ok (.aload_n 0, 1) := by decide +kernel
theorem d_R_flies_67 : decode prog_14_method_22_code 67 = .ok (.iload_n 1, 1) := by decide +kernel
theorem d_R_flies_68 : decode prog_14_method_22_code 68 = .ok (.iconst 0, 1) := by decide +kernel
theorem d_R_flies_69 : decode prog_14_method_22_code 69 = .ok (.invokevirtual 84, 3) := by decide +kernel
theorem d_R_flies_72 : decode prog_14_method_22_code 72 = .ok (.invokevirtual 104, 3) := by decide +kernel
theorem d_R_flies_75 : decode prog_14_method_22_code 75 = .ok (.aload_n 0, 1) := by decide +kernel
theorem d_R_flies_76 : decode prog_14_method_22_code 76 = .ok (.getfield 7, 3) := by decide +kernel
theorem d_R_flies_79 : decode prog_14_method_22_code 79 = .ok (.iconst 0, 1) := by decide +kernel
theorem d_R_flies_80 : decode prog_14_method_22_code 80 = .ok (.dup2, 1) := by decide +kernel
theorem d_R_flies_81 : decode prog_14_method_22_code 81 = .ok (.iaload, 1) := by decide +kernel
theorem d_R_flies_82 : decode prog_14_method_22_code 82 = .ok (.aload_n 0, 1) := by decide +kernel
theorem d_R_flies_83 : decode prog_14_method_22_code 83 = .ok (.iload_n 1, 1) := by decide +kernel
theorem d_R_flies_84 : decode prog_14_method_22_code 84 = .ok (.invokevirtual 91, 3) := by decide +kernel
theorem d_R_flies_87 : decode prog_14_method_22_code 87 = .ok (.isub, 1) := by decide +kernel
theorem d_R_flies_88 : decode prog_14_method_22_code 88 = .ok (.iastore, 1) := by decide +kernel
theorem d_R_flies_89 : decode prog_14_method_22_code 89 = .ok (.aload_n 0, 1) := by decide +kernel
theorem d_R_flies_90 : decode prog_14_method_22_code 90 = .ok (.getfield 7, 3) := by decide +kernel
theorem d_R_flies_93 : decode prog_14_method_22_code 93 = .ok (.bipush 14, 2) := by decide +kernel
theorem d_R_flies_95 : decode prog_14_method_22_code 95 = .ok (.dup2, 1) := by decide +kernel
theorem d_R_flies_96 : decode prog_14_method_22_code 96 = .ok (.iaload, 1) := by decide +kernel
theorem d_R_flies_97 : decode prog_14_method_22_code 97 = .ok (.aload_n 0, 1) := by decide +kernel
theorem d_R_flies_98 : decode prog_14_method_22_code 98 = .ok (.iload_n 1, 1) := by decide +kernel
theorem d_R_flies_99 : decode prog_14_method_22_code 99 = .ok (.invokevirtual 91, 3) := by decide +kernel
theorem d_R_flies_102 : decode prog_14_method_22_code 102 = .ok (.iadd, 1) := by decide +kernel
theorem d_R_flies_103 : decode prog_14_method_22_code 103 = .ok (.iastore, 1) := by decide +kernel
theorem d_R_flies_104 : decode prog_14_method_22_code 104 = .ok (.aload_n 0, 1) := by decide +kernel
theorem d_R_flies_105 : decode prog_14_method_22_code 105 = .ok (.iload_n 1, 1) := by decide +kernel
theorem d_R_flies_106 : decode prog_14_method_22_code 106 = .ok (.bipush 7, 2) := by decide +kernel
theorem d_R_flies_108 : decode prog_14_method_22_code 108 = .ok (.iconst 3, 1) := by decide +kernel
theorem d_R_flies_109 : decode prog_14_method_22_code 109 = .ok (.invokevirtual 80, 3) := by decide +kernel
theorem d_R_flies_112 : decode prog_14_method_22_code 112 = .ok (.return_, 1) := by decide +kernel
theorem d_R_handles_0 : decode prog_14_method_23_code 0 = .ok (.aload_n 0, 1) := by decide +kernel
theorem d_R_handles_1 : decode prog_14_method_23_code 1 = .ok (.getfield 7, 3) := by decide +kernel
theorem d_R_handles_4 : decode prog_14_method_23_code 4 = .ok (.bipush 12, 2) := by decide +kernel
theorem d_R_handles_6 : decode prog_14_method_23_code 6 = .ok (.iaload, 1) := by decide +kernel
theorem d_R_handles_7 : decode prog_14_method_23_code 7 = .ok (.ifCond .ne 5, 3) := by decide +kernel
theorem d_R_handles_10 : decode prog_14_method_23_code 10 = .ok (.iconst 0, 1) := by decide +kernel
theorem d_R_handles_11 : decode prog_14_method_23_code 11 = .ok (.ireturn, 1) := by decide +kernel
theorem d_R_handles_12 : decode prog_14_method_23_code 12 = .ok (.aload_n 0, 1) := by decide +kernel
theorem d_R_handles_13 : decode prog_14_method_23_code 13 = .ok (.getfield 7, 3) := by decide +kernel
theorem d_R_handles_16 : decode prog_14_method_23_code 16 = .ok (.sipush 500, 3) := by decide +kernel
theorem d_R_handles_19 : decode prog_14_method_23_code 19 = .ok (.iaload, 1) := by decide +kernel
theorem d_R_handles_20 : decode prog_14_method_23_code 20 = .ok (.istore_n 1, 1) := by decide +kernel
theorem d_R_handles_21 : decode prog_14_method_23_code 21 = .ok (.aload_n 0, 1) := by decide +kernel
theorem d_R_handles_22 : decode prog_14_method_23_code 22 = .ok (.iload_n 1, 1) := by decide +kernel
theorem d_R_handles_23 : decode prog_14_method_23_code 23 = .ok (.invokevirtual 107, 3) := by decide +kernel
theorem d_R_handles_26 : decode prog_14_method_23_code 26 = .ok (.istore_n 2, 1) := by decide +kernel
theorem d_R_handles_27 : decode prog_14_method_23_code 27 = .ok (.iload_n 2, 1) := by decide +kernel
theorem d_R_handles_28 : decode prog_14_method_23_code 28 = .ok (.iconst 1, 1) := by decide +kernel
theorem d_R_handles_29 : decode prog_14_method_23_code 29 = .ok (.if_icmp .ne 13, 3) := by decide +kernel
theorem d_R_handles_32 : decode prog_14_method_23_code 32 = .ok (.aload_n 0, 1) := by decide +kernel
theorem d_R_handles_33 : decode prog_14_method_23_code 33 = .ok (.invokevirtual 98, 3) := by decide +kernel
theorem d_R_handles_36 : decode prog_14_method_23_code 36 = .ok (.iconst (-1), 1) := by decide +kernel
theorem d_R_handles_37 : decode prog_14_method_23_code 37 = .ok (.if_icmp .ne 5, 3) := by decide +kernel
theorem d_R_handles_40 : decode prog_14_method_23_code 40 = .ok (.iconst 0, 1) := by decide +kernel
theorem d_R_handles_41 : decode prog_14_method_23_code 41 = .ok (.ireturn, 1) := by decide +kernel
theorem d_R_handles_42 : decode prog_14_method_23_code 42 = .ok (.aload_n 0, 1) := by decide +kernel
theorem d_R_handles_43 : decode prog_14_method_23_code 43 = .ok (.iload_n 1, 1) := by decide +kernel
theorem d_R_handles_44 : decode prog_14_method_23_code 44 = .ok (.bipush 9, 2) := by decide +kernel
theorem d_R_handles_46 : decode prog_14_method_23_code 46 = .ok (.iload_n 2, 1) := by decide +kernel
theorem d_R_handles_47 : decode prog_14_method_23_code 47 = .ok (.invokevirtual 80, 3) := by decide +kernel
theorem d_R_handles_50 : decode prog_14_method_23_code 50 = .ok (.aload_n 0, 1) := by decide +kernel
theorem d_R_handles_51 : decode prog_14_method_23_code 51 = .ok (.getfield 7, 3) := by decide +kernel
theorem d_R_handles_54 : decode prog_14_method_23_code 54 = .ok (.bipush 12, 2) := by decide +kernel
theorem d_R_handles_56 : decode prog_14_method_23_code 56 = .ok (.dup2, 1) := by decide +kernel
theorem d_R_handles_57 : decode prog_14_method_23_code 57 = .ok (.iaload, 1) := by decide +kernel
theorem d_R_handles_58 : decode prog_14_method_23_code 58 = .ok (.iconst 1, 1) := by decide +kernel
theorem d_R_handles_59 : decode prog_14_method_23_code 59 = .ok (.isub, 1) := by decide +kernel
theorem d_R_handles_60 : decode prog_14_method_23_code 60 = .ok (.iastore, 1) := by decide +kernel
theorem d_R_handles_61 : decode prog_14_method_23_code 61 = .ok (.aload_n 0, 1) := by decide +kernel
theorem d_R_handles_62 : decode prog_14_method_23_code 62 = .ok (.getfield 7, 3) := by decide +kernel
theorem d_R_handles_65 : decode prog_14_method_23_code 65 = .ok (.bipush 13, 2) := by decide +kernel
theorem d_R_handles_67 : decode prog_14_method_23_code 67 = .ok (.dup2, 1) := by decide +kernel
theorem d_R_handles_68 : decode prog_14_method_23_code 68 = .ok (.iaload, 1) := by decide +kernel
theorem d_R_handles_69 : decode prog_14_method_23_code 69 = .ok (.iconst 1, 1) := by decide +kernel
theorem d_R_handles_70 : decode prog_14_method_23_code 70 = .ok (.iadd, 1) := by decide +kernel
theorem d_R_handles_71 : decode prog_14_method_23_code 71 = .ok (.iastore, 1) := by decide +kernel
theorem d_R_handles_72 : decode prog_14_method_23_code 72 = .ok (.iconst 0, 1) := by decide +kernel
theorem d_R_handles_73 : decode prog_14_method_23_code 73 = .ok (.istore_n 3, 1) := by decide +kernel
theorem d_R_handles_74 : decode prog_14_method_23_code 74 = .ok (.iload_n 3, 1) := by decide +kernel
theorem d_R_handles_75 : decode prog_14_method_23_code 75 = .ok (.aload_n 0, 1) := by decide +kernel
theorem d_R_handles_76 : decode prog_14_method_23_code 76 = .ok (.getfield 7, 3) := by decide +kernel
theorem d_R_handles_79 : decode prog_14_method_23_code 79 = .ok (.bipush 12, 2) := by decide +kernel
theorem d_R_handles_81 : decode prog_14_method_23_code 81 = .ok (.iaload, 1) := by decide +kernel
theorem d_R_handles_82 : decode prog_14_method_23_code 82 = .ok (.if_icmp .ge 31, 3) := by decide +kernel
theorem d_R_handles_85 : decode prog_14_method_23_code 85 = .ok (.aload_n 0, 1) := by decide +kernel
theorem d_R_handles_86 : decode prog_14_method_23_code 86 = .ok (.getfield 7, 3) := by decide +kernel
theorem d_R_handles_89 : decode prog_14_method_23_code 89 = .ok (.sipush 500, 3) := by decide +kernel
theorem d_R_handles_92 : decode prog_14_method_23_code 92 = .ok (.iload_n 3, 1) := by decide +kernel
theorem d_R_handles_93 : decode prog_14_method_23_code 93 = .ok (.iadd, 1) := by decide +kernel
theorem d_R_handles_94 : decode prog_14_method_23_code 94 = .ok (.aload_n 0, 1) := by decide +kernel
theorem d_R_handles_95 : decode prog_14_method_23_code 95 = .ok (.getfield 7, 3) := by decide +kernel
theorem d_R_handles_98 : decode prog_14_method_23_code 98 = .ok (.sipush 500, 3) := by decide +kernel
theorem d_R_handles_101 : decode prog_14_method_23_code 101 = .ok (.iload_n 3, 1) := by decide +kernel
theorem d_R_handles_102 : decode prog_14_method_23_code 102 = .ok (.iadd, 1) := by decide +kernel
theorem d_R_handles_103 : decode prog_14_method_23_code 103 = .ok (.iconst 1, 1) := by decide +kernel
theorem d_R_handles_104 : decode prog_14_method_23_code 104 = .ok (.iadd, 1) := by decide +kernel
theorem d_R_handles_105 : decode prog_14_method_23_code 105 = .ok (.iaload, 1) := by decide +kernel
theorem d_R_handles_106 : decode prog_14_method_23_code 106 = .ok (.iastore, 1) := by decide +kernel
theorem d_R_handles_107 : decode prog_14_method_23_code 107 = .ok (.iinc 3 1, 3) := by decide +kernel
theorem d_R_handles_110 : decode prog_14_method_23_code 110 = .ok (.goto (-36), 3) := by decide +kernel
theorem d_R_handles_113 : decode prog_14_method_23_code 113 = .ok (.iload_n 2, 1) := by decide +kernel
theorem d_R_handles_114 : decode prog_14_method_23_code 114 = .ok (.iconst 1, 1) := by decide +kernel
theorem d_R_handles_115 : decode prog_14_method_23_code 115 = .ok (.if_icmp .ne 8, 3) := by decide +kernel
theorem d_R_handles_118 : decode prog_14_method_23_code 118 = .ok (.aload_n 0, 1) := by decide +kernel
theorem d_R_handles_119 : decode prog_14_method_23_code 119 = .ok (.iload_n 1, 1) := by decide +kernel
theorem d_R_handles_120 : decode prog_14_method_23_code 120 = .ok (.invokevirtual 110, 3) := by decide +kernel
theorem d_R_handles_123 : decode prog_14_method_23_code 123 = .ok (.iconst 1, 1) := by decide +kernel
theorem d_R_handles_124 : decode prog_14_method_23_code 124 = .ok (.ireturn, 1) := by decide +kernel
theorem d_R_dayPasses_0 : decode prog_14_method_25_code 0 = .ok (.aload_n 0, 1) := by decide +kernel
theorem d_R_dayPasses_1 : decode prog_14_method_25_code 1 = .ok (.getfield 7, 3) := by decide +kernel
theorem d_R_dayPasses_4 : decode prog_14_method_25_code 4 = .ok (.iconst 5, 1) := by decide +kernel
theorem d_R_dayPasses_5 : decode prog_14_method_25_code 5 = .ok (.dup2, 1) := by decide +kernel
theorem d_R_dayPasses_6 : decode prog_14_method_25_code 6 = .ok (.iaload, 1) := by decide +kernel
theorem d_R_dayPasses_7 : decode prog_14_method_25_code 7 = .ok (.iconst 1, 1) := by decide +kernel
theorem d_R_dayPasses_8 : decode prog_14_method_25_code 8 = .ok (.iadd, 1) := by decide +kernel
theorem d_R_dayPasses_9 : decode prog_14_method_25_code 9 = .ok (.iastore, 1) := by decide +kernel
theorem d_R_dayPasses_10 : decode prog_14_method_25_code 10 = .ok (.iconst 0, 1) := by decide +kernel
theorem d_R_dayPasses_11 : decode prog_14_method_25_code 11 = .ok (.istore_n 1, 1) := by decide +kernel
theorem d_R_dayPasses_12 : decode prog_14_method_25_code 12 = .ok (.iload_n 1, 1) := by decide +kernel
theorem d_R_dayPasses_13 : decode prog_14_method_25_code 13 = .ok (.aload_n 0, 1) := by decide +kernel
theorem d_R_dayPasses_14 : decode prog_14_method_25_code 14 = .ok (.getfield 7, 3) := by decide +kernel
theorem d_R_dayPasses_17 : decode prog_14_method_25_code 17 = .ok (.bipush 10, 2) := by decide +kernel
theorem d_R_dayPasses_19 : decode prog_14_method_25_code 19 = .ok (.iaload, 1) := by decide +kernel
theorem d_R_dayPasses_20 : decode prog_14_method_25_code 20 = .ok (.if_icmp .ge 54, 3) := by decide +kernel
theorem d_R_dayPasses_23 : decode prog_14_method_25_code 23 = .ok (.aload_n 0, 1) := by decide +kernel
theorem d_R_dayPasses_24 : decode prog_14_method_25_code 24 = .ok (.iload_n 1, 1) := by decide +kernel
theorem d_R_dayPasses_25 : decode prog_14_method_25_code 25 = .ok (.bipush 7, 2) := by decide +kernel
theorem d_R_dayPasses_27 : decode prog_14_method_25_code 27 = .ok (.invokevirtual 84, 3) := by decide +kernel
theorem d_R_dayPasses_30 : decode prog_14_method_25_code 30 = .ok (.ifCond .ne 38, 3) := by decide +kernel
theorem d_R_dayPasses_33 : decode prog_14_method_25_code 33 = .ok (.aload_n 0, 1) := by decide +kernel
theorem d_R_dayPasses_34 : decode prog_14_method_25_code 34 = .ok (.iload_n 1, 1) := by decide +kernel
theorem d_R_dayPasses_35 : decode prog_14_method_25_code 35 = .ok (.iconst 5, 1) := by decide +kernel
theorem d_R_dayPasses_36 : decode prog_14_method_25_code 36 = .ok (.invokevirtual 84, 3) := by decide +kernel
theorem d_R_dayPasses_39 : decode prog_14_method_25_code 39 = .ok (.aload_n 0, 1) := by decide +kernel
theorem d_R_dayPasses_40 : decode prog_14_method_25_code 40 = .ok (.getfield 7, 3) := by decide +kernel
theorem d_R_dayPasses_43 : decode prog_14_method_25_code 43 = .ok (.iconst 5, 1) := by decide +kernel
theorem d_R_dayPasses_44 : decode prog_14_method_25_code 44 = .ok (.iaload, 1) := by decide +kernel
theorem d_R_dayPasses_45 : decode prog_14_method_25_code 45 = .ok (.if_icmp .ge 23, 3) := by decide +kernel
theorem d_R_dayPasses_48 : decode prog_14_method_25_code 48 = .ok (.aload_n 0, 1) := by decide +kernel
theorem d_R_dayPasses_49 : decode prog_14_method_25_code 49 = .ok (.iload_n 1, 1) := by decide +kernel
theorem d_R_dayPasses_50 : decode prog_14_method_25_code 50 = .ok (.aload_n 0, 1) := by decide +kernel
theorem d_R_dayPasses_51 : decode prog_14_method_25_code 51 = .ok (.iload_n 1, 1) := by decide +kernel
theorem d_R_dayPasses_52 : decode prog_14_method_25_code 52 = .ok (.iconst 3, 1) := by decide +kernel
theorem d_R_dayPasses_53 : decode prog_14_method_25_code 53 = .ok (.invokevirtual 84, 3) := by decide +kernel
theorem d_R_dayPasses_56 : decode prog_14_method_25_code 56 = .ok (.iconst 1, 1) := by decide +kernel
theorem d_R_dayPasses_57 : decode prog_14_method_25_code 57 = .ok (.if_icmp .ne 7, 3) := by decide +kernel
theorem d_R_dayPasses_60 : decode prog_14_method_25_code 60 = .ok (.iconst 1, 1) := by decide +kernel
theorem d_R_dayPasses_61 : decode prog_14_method_25_code 61 = .ok (.goto 4, 3) := by decide +kernel
theorem d_R_dayPasses_64 : decode prog_14_method_25_code 64 = .ok (.iconst 0, 1) := by decide +kernel
theorem d_R_dayPasses_65 : decode prog_14_method_25_code 65 = .ok (.invokevirtual 114, 3) := by decide +kernel
theorem d_R_dayPasses_68 : decode prog_14_method_25_code 68 = .ok (.iinc 1 1, 3) := by decide +kernel
theorem d_R_dayPasses_71 : decode prog_14_method_25_code 71 = .ok (.goto (-59), 3) := by decide +kernel
theorem d_R_dayPasses_74 : decode prog_14_method_25_code 74 = .ok (.iconst 0, 1) := by decide +kernel
theorem d_R_dayPasses_75 : decode prog_14_method_25_code 75 = .ok (.istore_n 1, 1) := by decide +kernel
theorem d_R_dayPasses_76 : decode prog_14_method_25_code 76 = .ok (.iload_n 1, 1) := by decide +kernel
theorem d_R_dayPasses_77 : decode prog_14_method_25_code 77 = .ok (.aload_n 0, 1) := by decide +kernel
theorem d_R_dayPasses_78 : decode prog_14_method_25_code 78 = .ok (.getfield 7, 3) := by decide +kernel
theorem d_R_dayPasses_81 : decode prog_14_method_25_code 81 = .ok (.bipush 9, 2) := by decide +kernel
theorem d_R_dayPasses_83 : decode prog_14_method_25_code 83 = .ok (.iaload, 1) := by decide +kernel
theorem d_R_dayPasses_84 : decode prog_14_method_25_code 84 = .ok (.if_icmp .ge 49, 3) := by decide +kernel
theorem d_R_dayPasses_87 : decode prog_14_method_25_code 87 = .ok (.aload_n 0, 1) := by decide +kernel
theorem d_R_dayPasses_88 : decode prog_14_method_25_code 88 = .ok (.iload_n 1, 1) := by decide +kernel
theorem d_R_dayPasses_89 : decode prog_14_method_25_code 89 = .ok (.iconst 1, 1) := by decide +kernel
theorem d_R_dayPasses_90 : decode prog_14_method_25_code 90 = .ok (.invokevirtual 95, 3) := by decide +kernel
theorem d_R_dayPasses_93 : decode prog_14_method_25_code 93 = .ok (.ifCond .ne 6, 3) := by decide +kernel
theorem d_R_dayPasses_96 : decode prog_14_method_25_code 96 = .ok (.goto 31, 3) := by decide +kernel
theorem d_R_dayPasses_99 : decode prog_14_method_25_code 99 = .ok (.aload_n 0, 1) := by decide +kernel
theorem d_R_dayPasses_100 : decode prog_14_method_25_code 100 = .ok (.iload_n 1, 1) := by decide +kernel
theorem d_R_dayPasses_101 : decode prog_14_method_25_code 101 = .ok (.iconst 1, 1) := by decide +kernel
theorem d_R_dayPasses_102 : decode prog_14_method_25_code 102 = .ok (.aload_n 0, 1) := by decide +kernel
theorem d_R_dayPasses_103 : decode prog_14_method_25_code 103 = .ok (.iload_n 1, 1) := by decide +kernel
theorem d_R_dayPasses_104 : decode prog_14_method_25_code 104 = .ok (.iconst 1, 1) := by decide +kernel
theorem d_R_dayPasses_105 : decode prog_14_method_25_code 105 = .ok (.invokevirtual 95, 3) := by decide +kernel
theorem d_R_dayPasses_108 : decode prog_14_method_25_code 108 = .ok (.iconst 1, 1) := by decide +kernel
theorem d_R_dayPasses_109 : decode prog_14_method_25_code 109 = .ok (.isub, 1) := by decide +kernel
theorem d_R_dayPasses_110 : decode prog_14_method_25_code 110 = .ok (.invokevirtual 104, 3) := by decide +kernel
theorem d_R_dayPasses_113 : decode prog_14_method_25_code 113 = .ok (.aload_n 0, 1) := by decide +kernel
theorem d_R_dayPasses_114 : decode prog_14_method_25_code 114 = .ok (.iload_n 1, 1) := by decide +kernel
theorem d_R_dayPasses_115 : decode prog_14_method_25_code 115 = .ok (.iconst 1, 1) := by decide +kernel
theorem d_R_dayPasses_116 : decode prog_14_method_25_code 116 = .ok (.invokevirtual 95, 3) := by decide +kernel
theorem d_R_dayPasses_119 : decode prog_14_method_25_code 119 = .ok (.ifCond .ne 8, 3) := by decide +kernel
theorem d_R_dayPasses_122 : decode prog_14_method_25_code 122 = .ok (.aload_n 0, 1) := by decide +kernel
theorem d_R_dayPasses_123 : decode prog_14_method_25_code 123 = .ok (.iload_n 1, 1) := by decide +kernel
theorem d_R_dayPasses_124 : decode prog_14_method_25_code 124 = .ok (.invokevirtual 118, 3) := by decide +kernel
theorem d_R_dayPasses_127 : decode prog_14_method_25_code 127 = .ok (.iinc 1 1, 3) := by decide +kernel
theorem d_R_dayPasses_130 : decode prog_14_method_25_code 130 = .ok (.goto (-54), 3) := by decide +kernel
theorem d_R_dayPasses_133 : decode prog_14_method_25_code 133 = .ok (.iconst 0, 1) := by decide +kernel
theorem d_R_dayPasses_134 : decode prog_14_method_25_code 134 = .ok (.istore_n 1, 1) := by decide +kernel
theorem d_R_dayPasses_135 : decode prog_14_method_25_code 135 = .ok (.iload_n 1, 1) := by decide +kernel
theorem d_R_dayPasses_136 : decode prog_14_method_25_code 136 = .ok (.aload_n 0, 1) := by decide +kernel
theorem d_R_dayPasses_137 : decode prog_14_method_25_code 137 = .ok (.getfield 7, 3) := by decide +kernel
theorem d_R_dayPasses_140 : decode prog_14_method_25_code 140 = .ok (.iconst 1, 1) := by decide +kernel
theorem d_R_dayPasses_141 : decode prog_14_method_25_code 141 = .ok (.iaload, 1) := by decide +kernel
theorem d_R_dayPasses_142 : decode prog_14_method_25_code 142 = .ok (.if_icmp .ge 16, 3) := by decide +kernel
theorem d_R_dayPasses_145 : decode prog_14_method_25_code 145 = .ok (.aload_n 0, 1) := by decide +kernel
theorem d_R_dayPasses_146 : decode prog_14_method_25_code 146 = .ok (.invokevirtual 121, 3) := by decide +kernel
theorem d_R_dayPasses_149 : decode prog_14_method_25_code 149 = .ok (.ifCond .eq 9, 3) := by decide +kernel
theorem d_R_dayPasses_152 : decode prog_14_method_25_code 152 = .ok (.iinc 1 1, 3) := by decide +kernel
theorem d_R_dayPasses_155 : decode prog_14_method_25_code 155 = .ok (.goto (-20), 3) := by decide +kernel
theorem d_R_dayPasses_158 : decode prog_14_method_25_code 158 = .ok (.return_, 1) := by decide +kernel
theorem d_R_advancing_0 : decode prog_14_method_125_code 0 = .ok (.aload_n 0, 1) := by decide +kernel
theorem d_R_advancing_1 : decode prog_14_method_125_code 1 = .ok (.iload_n 1, 1) := by decide +kernel
theorem d_R_advancing_2 : decode prog_14_method_125_code 2 = .ok (.iconst 1, 1) := by decide +kernel
theorem d_R_advancing_3 : decode prog_14_method_125_code 3 = .ok (.bipush 60, 2) := by decide +kernel
theorem d_R_advancing_5 : decode prog_14_method_125_code 5 = .ok (.invokestatic 76, 3) := by decide +kernel
theorem d_R_advancing_8 : decode prog_14_method_125_code 8 = .ok (.iconst 1, 1) := by decide +kernel
theorem d_R_advancing_9 : decode prog_14_method_125_code 9 = .ok (.invokevirtual 128, 3) := by decide +kernel
theorem d_R_advancing_12 : decode prog_14_method_125_code 12 = .ok (.ifCond .eq 30, 3) := by decide +kernel
theorem d_R_advancing_15 : decode prog_14_method_125_code 15 = .ok (.aload_n 0, 1) := by decide +kernel
theorem d_R_advancing_16 : decode prog_14_method_125_code 16 = .ok (.aload_n 0, 1) := by decide +kernel
theorem d_R_advancing_17 : decode prog_14_method_125_code 17 = .ok (.getfield 7, 3) := by decide +kernel
theorem d_R_advancing_20 : decode prog_14_method_125_code 20 = .ok (.iconst 5, 1) := by decide +kernel
theorem d_R_advancing_21 : decode prog_14_method_125_code 21 = .ok (.iaload, 1) := by decide +kernel
theorem d_R_advancing_22 : decode prog_14_method_125_code 22 = .ok (.iload_n 1, 1) := by decide +kernel
theorem d_R_advancing_23 : decode prog_14_method_125_code 23 = .ok (.iadd, 1) := by decide +kernel
theorem d_R_advancing_24 : decode prog_14_method_125_code 24 = .ok (.sipush 9999, 3) := by decide +kernel
theorem d_R_advancing_27 : decode prog_14_method_125_code 27 = .ok (.if_icmp .gt 7, 3) := by decide +kernel
theorem d_R_advancing_30 : decode prog_14_method_125_code 30 = .ok (.iconst 1, 1) := by decide +kernel
theorem d_R_advancing_31 : decode prog_14_method_125_code 31 = .ok (.goto 4, 3) := by decide +kernel
theorem d_R_advancing_34 : decode prog_14_method_125_code 34 = .ok (.iconst 0, 1) := by decide +kernel
theorem d_R_advancing_35 : decode prog_14_method_125_code 35 = .ok (.iconst 2, 1) := by decide +kernel
theorem d_R_advancing_36 : decode prog_14_method_125_code 36 = .ok (.invokevirtual 128, 3) := by decide +kernel
theorem d_R_advancing_39 : decode prog_14_method_125_code 39 = .ok (.ifCond .ne 5, 3) := by decide +kernel
theorem d_R_advancing_42 : decode prog_14_method_125_code 42 = .ok (.iconst 0, 1) := by decide +kernel
theorem d_R_advancing_43 : decode prog_14_method_125_code 43 = .ok (.ireturn, 1) := by decide +kernel
theorem d_R_advancing_44 : decode prog_14_method_125_code 44 = .ok (.aload_n 0, 1) := by decide +kernel
theorem d_R_advancing_45 : decode prog_14_method_125_code 45 = .ok (.invokevirtual 382, 3) := by decide +kernel
theorem d_R_advancing_48 : decode prog_14_method_125_code 48 = .ok (.aload_n 0, 1) := by decide +kernel
theorem d_R_advancing_49 : decode prog_14_method_125_code 49 = .ok (.getfield 7, 3) := by decide +kernel
theorem d_R_advancing_52 : decode prog_14_method_125_code 52 = .ok (.bipush 13, 2) := by decide +kernel
theorem d_R_advancing_54 : decode prog_14_method_125_code 54 = .ok (.iaload, 1) := by decide +kernel
theorem d_R_advancing_55 : decode prog_14_method_125_code 55 = .ok (.istore_n 2, 1) := by decide +kernel
theorem d_R_advancing_56 : decode prog_14_method_125_code 56 = .ok (.iconst 0, 1) := by decide +kernel
theorem d_R_advancing_57 : decode prog_14_method_125_code 57 = .ok (.istore_n 3, 1) := by decide +kernel
theorem d_R_advancing_58 : decode prog_14_method_125_code 58 = .ok (.iload_n 3, 1) := by decide +kernel
theorem d_R_advancing_59 : decode prog_14_method_125_code 59 = .ok (.iload_n 1, 1) := by decide +kernel
theorem d_R_advancing_60 : decode prog_14_method_125_code 60 = .ok (.if_icmp .ge 13, 3) := by decide +kernel
theorem d_R_advancing_63 : decode prog_14_method_125_code 63 = .ok (.aload_n 0, 1) := by decide +kernel
theorem d_R_advancing_64 : decode prog_14_method_125_code 64 = .ok (.invokevirtual 370, 3) := by decide +kernel
theorem d_R_advancing_67 : decode prog_14_method_125_code 67 = .ok (.iinc 3 1, 3) := by decide +kernel
theorem d_R_advancing_70 : decode prog_14_method_125_code 70 = .ok (.goto (-12), 3) := by decide +kernel
theorem d_R_advancing_73 : decode prog_14_method_125_code 73 = .ok (.aload_n 0, 1) := by decide +kernel
theorem d_R_advancing_74 : decode prog_14_method_125_code 74 = .ok (.getfield 7, 3) := by decide +kernel
theorem d_R_advancing_77 : decode prog_14_method_125_code 77 = .ok (.bipush 13, 2) := by decide +kernel
theorem d_R_advancing_79 : decode prog_14_method_125_code 79 = .ok (.iaload, 1) := by decide +kernel
theorem d_R_advancing_80 : decode prog_14_method_125_code 80 = .ok (.iload_n 2, 1) := by decide +kernel
theorem d_R_advancing_81 : decode prog_14_method_125_code 81 = .ok (.isub, 1) := by decide +kernel
theorem d_R_advancing_82 : decode prog_14_method_125_code 82 = .ok (.ireturn, 1) := by decide +kernel
theorem d_R_advance_0 : decode prog_14_method_126_code 0 = .ok (.aload_n 0, 1) := by decide +kernel
theorem d_R_advance_1 : decode prog_14_method_126_code 1 = .ok (.iconst 0, 1) := by decide +kernel
theorem d_R_advance_2 : decode prog_14_method_126_code 2 = .ok (.putfield 73, 3) := by decide +kernel
theorem d_R_advance_5 : decode prog_14_method_126_code 5 = .ok (.aload_n 0, 1) := by decide +kernel
theorem d_R_advance_6 : decode prog_14_method_126_code 6 = .ok (.iload_n 1, 1) := by decide +kernel
theorem d_R_advance_7 : decode prog_14_method_126_code 7 = .ok (.invokevirtual 304, 3) := by decide +kernel
theorem d_R_advance_10 : decode prog_14_method_126_code 10 = .ok (.ireturn, 1) := by decide +kernel
theorem d_R_ofNote_0 : decode prog_14_method_11_code 0 = .ok (.aload_n 0, 1) := by decide +kernel
theorem d_R_ofNote_1 : decode prog_14_method_11_code 1 = .ok (.getfield 7, 3) := by decide +kernel
theorem d_R_ofNote_4 : decode prog_14_method_11_code 4 = .ok (.sipush 320, 3) := by decide +kernel
theorem d_R_ofNote_7 : decode prog_14_method_11_code 7 = .ok (.iconst 3, 1) := by decide +kernel
theorem d_R_ofNote_8 : decode prog_14_method_11_code 8 = .ok (.iload_n 1, 1) := by decide +kernel
theorem d_R_ofNote_9 : decode prog_14_method_11_code 9 = .ok (.imul, 1) := by decide +kernel
theorem d_R_ofNote_10 : decode prog_14_method_11_code 10 = .ok (.iadd, 1) := by decide +kernel
theorem d_R_ofNote_11 : decode prog_14_method_11_code 11 = .ok (.iload_n 2, 1) := by decide +kernel
theorem d_R_ofNote_12 : decode prog_14_method_11_code 12 = .ok (.iadd, 1) := by decide +kernel
theorem d_R_ofNote_13 : decode prog_14_method_11_code 13 = .ok (.iaload, 1) := by decide +kernel
theorem d_R_ofNote_14 : decode prog_14_method_11_code 14 = .ok (.ireturn, 1) := by decide +kernel
theorem d_R_noted_0 : decode prog_14_method_18_code 0 = .ok (.iconst 0, 1) := by decide +kernel
theorem d_R_noted_1 : decode prog_14_method_18_code 1 = .ok (.istore 4, 2) := by decide +kernel
theorem d_R_noted_3 : decode prog_14_method_18_code 3 = .ok (.iconst 0, 1) := by decide +kernel
theorem d_R_noted_4 : decode prog_14_method_18_code 4 = .ok (.istore 5, 2) := by decide +kernel
theorem d_R_noted_6 : decode prog_14_method_18_code 6 = .ok (.iload 5, 2) := by decide +kernel
theorem d_R_noted_8 : decode prog_14_method_18_code 8 = .ok (.aload_n 0, 1) := by decide +kernel
theorem d_R_noted_9 : decode prog_14_method_18_code 9 = .ok (.getfield 7, 3) := by decide +kernel
theorem d_R_noted_12 : decode prog_14_method_18_code 12 = .ok (.bipush 11, 2) := by decide +kernel
theorem d_R_noted_14 : decode prog_14_method_18_code 14 = .ok (.iaload, 1) := by decide +kernel
theorem d_R_noted_15 : decode prog_14_method_18_code 15 = .ok (.if_icmp .ge 50, 3) := by decide +kernel
theorem d_R_noted_18 : decode prog_14_method_18_code 18 = .ok (.aload_n 0, 1) := by decide +kernel
theorem d_R_noted_19 : decode prog_14_method_18_code 19 = .ok (.iload 5, 2) := by decide +kernel
theorem d_R_noted_21 : decode prog_14_method_18_code 21 = .ok (.iconst 0, 1) := by decide +kernel
theorem d_R_noted_22 : decode prog_14_method_18_code 22 = .ok (.invokevirtual 88, 3) := by decide +kernel
theorem d_R_noted_25 : decode prog_14_method_18_code 25 = .ok (.iload_n 1, 1) := by decide +kernel
theorem d_R_noted_26 : decode prog_14_method_18_code 26 = .ok (.if_icmp .ne 33, 3) := by decide +kernel
theorem d_R_noted_29 : decode prog_14_method_18_code 29 = .ok (.aload_n 0, 1) := by decide +kernel
theorem d_R_noted_30 : decode prog_14_method_18_code 30 = .ok (.iload 5, 2) := by decide +kernel
theorem d_R_noted_32 : decode prog_14_method_18_code 32 = .ok (.iconst 1, 1) := by decide +kernel
theorem d_R_noted_33 : decode prog_14_method_18_code 33 = .ok (.invokevirtual 88, 3) := by decide +kernel
theorem d_R_noted_36 : decode prog_14_method_18_code 36 = .ok (.iload_n 2, 1) := by decide +kernel
theorem d_R_noted_37 : decode prog_14_method_18_code 37 = .ok (.if_icmp .ne 22, 3) := by decide +kernel
theorem d_R_noted_40 : decode prog_14_method_18_code 40 = .ok (.iload_n 3, 1) := by decide +kernel
theorem d_R_noted_41 : decode prog_14_method_18_code 41 = .ok (.iconst (-1), 1) := by decide +kernel
theorem d_R_noted_42 : decode prog_14_method_18_code 42 = .ok (.if_icmp .eq 14, 3) := by decide +kernel
theorem d_R_noted_45 : decode prog_14_method_18_code 45 = .ok (.aload_n 0, 1) := by decide +kernel
theorem d_R_noted_46 : decode prog_14_method_18_code 46 = .ok (.iload 5, 2) := by decide +kernel
theorem d_R_noted_48 : decode prog_14_method_18_code 48 = .ok (.iconst 2, 1) := by decide +kernel
theorem d_R_noted_49 : decode prog_14_method_18_code 49 = .ok (.invokevirtual 88, 3) := by decide +kernel
theorem d_R_noted_52 : decode prog_14_method_18_code 52 = .ok (.iload_n 3, 1) := by decide +kernel
theorem d_R_noted_53 : decode prog_14_method_18_code 53 = .ok (.if_icmp .ne 6, 3) := by decide +kernel
theorem d_R_noted_56 : decode prog_14_method_18_code 56 = .ok (.iinc 4 1, 3) := by decide +kernel
theorem d_R_noted_59 : decode prog_14_method_18_code 59 = .ok (.iinc 5 1, 3) := by decide +kernel
theorem d_R_noted_62 : decode prog_14_method_18_code 62 = .ok (.goto (-56), 3) := by decide +kernel
theorem d_R_noted_65 : decode prog_14_method_18_code 65 = .ok (.iload 4, 2) := by decide +kernel
theorem d_R_noted_67 : decode prog_14_method_18_code 67 = .ok (.ireturn, 1) := by decide +kernel
theorem d_R_allAt_0 : decode prog_14_method_82_code 0 = .ok (.iconst 0, 1) := by decide +kernel
theorem d_R_allAt_1 : decode prog_14_method_82_code 1 = .ok (.istore_n 2, 1) := by decide +kernel
theorem d_R_allAt_2 : decode prog_14_method_82_code 2 = .ok (.iconst 0, 1) := by decide +kernel
theorem d_R_allAt_3 : decode prog_14_method_82_code 3 = .ok (.istore_n 3, 1) := by decide +kernel
theorem d_R_allAt_4 : decode prog_14_method_82_code 4 = .ok (.iload_n 3, 1) := by decide +kernel
theorem d_R_allAt_5 : decode prog_14_method_82_code 5 = .ok (.aload_n 0, 1) := by decide +kernel
theorem d_R_allAt_6 : decode prog_14_method_82_code 6 = .ok (.getfield 7, 3) := by decide +kernel
theorem d_R_allAt_9 : decode prog_14_method_82_code 9 = .ok (.bipush 6, 2) := by decide +kernel
theorem d_R_allAt_11 : decode prog_14_method_82_code 11 = .ok (.iaload, 1) := by decide +kernel
theorem d_R_allAt_12 : decode prog_14_method_82_code 12 = .ok (.if_icmp .ge 19, 3) := by decide +kernel
theorem d_R_allAt_15 : decode prog_14_method_82_code 15 = .ok (.iload_n 2, 1) := by decide +kernel
theorem d_R_allAt_16 : decode prog_14_method_82_code 16 = .ok (.aload_n 0, 1) := by decide +kernel
theorem d_R_allAt_17 : decode prog_14_method_82_code 17 = .ok (.iload_n 3, 1) := by decide +kernel
theorem d_R_allAt_18 : decode prog_14_method_82_code 18 = .ok (.iload_n 1, 1) := by decide +kernel
theorem d_R_allAt_19 : decode prog_14_method_82_code 19 = .ok (.iconst (-1), 1) := by decide +kernel
theorem d_R_allAt_20 : decode prog_14_method_82_code 20 = .ok (.invokevirtual 339, 3) := by decide +kernel
theorem d_R_allAt_23 : decode prog_14_method_82_code 23 = .ok (.iadd, 1) := by decide +kernel
theorem d_R_allAt_24 : decode prog_14_method_82_code 24 = .ok (.istore_n 2, 1) := by decide +kernel
theorem d_R_allAt_25 : decode prog_14_method_82_code 25 = .ok (.iinc 3 1, 3) := by decide +kernel
theorem d_R_allAt_28 : decode prog_14_method_82_code 28 = .ok (.goto (-24), 3) := by decide +kernel
theorem d_R_allAt_31 : decode prog_14_method_82_code 31 = .ok (.iload_n 2, 1) := by decide +kernel
theorem d_R_allAt_32 : decode prog_14_method_82_code 32 = .ok (.ireturn, 1) := by decide +kernel
theorem d_R_isProphecy_0 : decode prog_14_method_15_code 0 = .ok (.iload_n 1, 1) := by decide +kernel
theorem d_R_isProphecy_1 : decode prog_14_method_15_code 1 = .ok (.iconst 0, 1) := by decide +kernel
theorem d_R_isProphecy_2 : decode prog_14_method_15_code 2 = .ok (.aload_n 0, 1) := by decide +kernel
theorem d_R_isProphecy_3 : decode prog_14_method_15_code 3 = .ok (.getfield 7, 3) := by decide +kernel
theorem d_R_isProphecy_6 : decode prog_14_method_15_code 6 = .ok (.bipush 10, 2) := by decide +kernel
theorem d_R_isProphecy_8 : decode prog_14_method_15_code 8 = .ok (.iaload, 1) := by decide +kernel
theorem d_R_isProphecy_9 : decode prog_14_method_15_code 9 = .ok (.iconst 1, 1) := by decide +kernel
theorem d_R_isProphecy_10 : decode prog_14_method_15_code 10 = .ok (.isub, 1) := by decide +kernel
theorem d_R_isProphecy_11 : decode prog_14_method_15_code 11 = .ok (.invokestatic 76, 3) := by decide +kernel
theorem d_R_isProphecy_14 : decode prog_14_method_15_code 14 = .ok (.ireturn, 1) := by decide +kernel
theorem d_R_asked_0 : decode prog_14_method_85_code 0 = .ok (.aload_n 0, 1) := by decide +kernel
theorem d_R_asked_1 : decode prog_14_method_85_code 1 = .ok (.iconst 0, 1) := by decide +kernel
theorem d_R_asked_2 : decode prog_14_method_85_code 2 = .ok (.putfield 73, 3) := by decide +kernel
theorem d_R_asked_5 : decode prog_14_method_85_code 5 = .ok (.aload_n 0, 1) := by decide +kernel
theorem d_R_asked_6 : decode prog_14_method_85_code 6 = .ok (.aload_n 0, 1) := by decide +kernel
theorem d_R_asked_7 : decode prog_14_method_85_code 7 = .ok (.iload_n 1, 1) := by decide +kernel
theorem d_R_asked_8 : decode prog_14_method_85_code 8 = .ok (.invokevirtual 346, 3) := by decide +kernel
theorem d_R_asked_11 : decode prog_14_method_85_code 11 = .ok (.iconst 1, 1) := by decide +kernel
theorem d_R_asked_12 : decode prog_14_method_85_code 12 = .ok (.invokevirtual 128, 3) := by decide +kernel
theorem d_R_asked_15 : decode prog_14_method_85_code 15 = .ok (.ifCond .eq 12, 3) := by decide +kernel
theorem d_R_asked_18 : decode prog_14_method_85_code 18 = .ok (.aload_n 0, 1) := by decide +kernel
theorem d_R_asked_19 : decode prog_14_method_85_code 19 = .ok (.iload_n 1, 1) := by decide +kernel
theorem d_R_asked_20 : decode prog_14_method_85_code 20 = .ok (.iload_n 2, 1) := by decide +kernel
theorem d_R_asked_21 : decode prog_14_method_85_code 21 = .ok (.invokevirtual 84, 3) := by decide +kernel
theorem d_R_asked_24 : decode prog_14_method_85_code 24 = .ok (.goto 4, 3) := by decide +kernel
theorem d_R_asked_27 : decode prog_14_method_85_code 27 = .ok (.iconst 0, 1) := by decide +kernel
theorem d_R_asked_28 : decode prog_14_method_85_code 28 = .ok (.ireturn, 1) := by decide +kernel
theorem d_R_answerFor_0 : decode prog_14_method_98_code 0 = .ok (.aload_n 0, 1) := by decide +kernel
theorem d_R_answerFor_1 : decode prog_14_method_98_code 1 = .ok (.iload_n 1, 1) := by decide +kernel
theorem d_R_answerFor_2 : decode prog_14_method_98_code 2 = .ok (.bipush 9, 2) := by decide +kernel
theorem d_R_answerFor_4 : decode prog_14_method_98_code 4 = .ok (.invokevirtual 349, 3) := by decide +kernel
theorem d_R_answerFor_7 : decode prog_14_method_98_code 7 = .ok (.ireturn, 1) := by decide +kernel
theorem d_R_feeds_0 : decode prog_14_method_28_code 0 = .ok (.bipush 24, 2) := by decide +kernel
theorem d_R_feeds_2 : decode prog_14_method_28_code 2 = .ok (.istore_n 2, 1) := by decide +kernel
theorem d_R_feeds_3 : decode prog_14_method_28_code 3 = .ok (.iload_n 2, 1) := by decide +kernel
theorem d_R_feeds_4 : decode prog_14_method_28_code 4 = .ok (.ifCond .lt 54, 3) := by decide +kernel
theorem d_R_feeds_7 : decode prog_14_method_28_code 7 = .ok (.iload_n 1, 1) := by decide +kernel
theorem d_R_feeds_8 : decode prog_14_method_28_code 8 = .ok (.iload_n 2, 1) := by decide +kernel
theorem d_R_feeds_9 : decode prog_14_method_28_code 9 = .ok (.ishr, 1) := by decide +kernel
theorem d_R_feeds_10 : decode prog_14_method_28_code 10 = .ok (.sipush 255, 3) := by decide +kernel
theorem d_R_feeds_13 : decode prog_14_method_28_code 13 = .ok (.iand, 1) := by decide +kernel
theorem d_R_feeds_14 : decode prog_14_method_28_code 14 = .ok (.istore_n 3, 1) := by decide +kernel
theorem d_R_feeds_15 : decode prog_14_method_28_code 15 = .ok (.iload_n 3, 1) := by decide +kernel
theorem d_R_feeds_16 : decode prog_14_method_28_code 16 = .ok (.ifCond .ne 6, 3) := by decide +kernel
theorem d_R_feeds_19 : decode prog_14_method_28_code 19 = .ok (.goto 33, 3) := by decide +kernel
theorem d_R_feeds_22 : decode prog_14_method_28_code 22 = .ok (.aload_n 0, 1) := by decide +kernel
theorem d_R_feeds_23 : decode prog_14_method_28_code 23 = .ok (.getfield 64, 3) := by decide +kernel
theorem d_R_feeds_26 : decode prog_14_method_28_code 26 = .ok (.sipush 800, 3) := by decide +kernel
theorem d_R_feeds_29 : decode prog_14_method_28_code 29 = .ok (.if_icmp .ge 13, 3) := by decide +kernel
theorem d_R_feeds_32 : decode prog_14_method_28_code 32 = .ok (.aload_n 0, 1) := by decide +kernel
theorem d_R_feeds_33 : decode prog_14_method_28_code 33 = .ok (.getfield 29, 3) := by decide +kernel
theorem d_R_feeds_36 : decode prog_14_method_28_code 36 = .ok (.aload_n 0, 1) := by decide +kernel
theorem d_R_feeds_37 : decode prog_14_method_28_code 37 = .ok (.getfield 64, 3) := by decide +kernel
theorem d_R_feeds_40 : decode prog_14_method_28_code 40 = .ok (.iload_n 3, 1) := by decide +kernel
theorem d_R_feeds_41 : decode prog_14_method_28_code 41 = .ok (.iastore, 1) := by decide +kernel
theorem d_R_feeds_42 : decode prog_14_method_28_code 42 = .ok (.aload_n 0, 1) := by decide +kernel
theorem d_R_feeds_43 : decode prog_14_method_28_code 43 = .ok (.dup, 1) := by decide +kernel
theorem d_R_feeds_44 : decode prog_14_method_28_code 44 = .ok (.getfield 64, 3) := by decide +kernel
theorem d_R_feeds_47 : decode prog_14_method_28_code 47 = .ok (.iconst 1, 1) := by decide +kernel
theorem d_R_feeds_48 : decode prog_14_method_28_code 48 = .ok (.iadd, 1) := by decide +kernel
theorem d_R_feeds_49 : decode prog_14_method_28_code 49 = .ok (.putfield 64, 3) := by decide +kernel
theorem d_R_feeds_52 : decode prog_14_method_28_code 52 = .ok (.iinc 2 (-8), 3) := by decide +kernel
theorem d_R_feeds_55 : decode prog_14_method_28_code 55 = .ok (.goto (-52), 3) := by decide +kernel
theorem d_R_feeds_58 : decode prog_14_method_28_code 58 = .ok (.return_, 1) := by decide +kernel
theorem d_R_append_0 : decode prog_14_method_29_code 0 = .ok (.aload_n 0, 1) := by decide +kernel
theorem d_R_append_1 : decode prog_14_method_29_code 1 = .ok (.iconst 0, 1) := by decide +kernel
theorem d_R_append_2 : decode prog_14_method_29_code 2 = .ok (.putfield 73, 3) := by decide +kernel
theorem d_R_append_5 : decode prog_14_method_29_code 5 = .ok (.aload_n 0, 1) := by decide +kernel
theorem d_R_append_6 : decode prog_14_method_29_code 6 = .ok (.getfield 64, 3) := by decide +kernel
theorem d_R_append_9 : decode prog_14_method_29_code 9 = .ok (.istore 6, 2) := by decide +kernel
theorem d_R_append_11 : decode prog_14_method_29_code 11 = .ok (.aload_n 0, 1) := by decide +kernel
theorem d_R_append_12 : decode prog_14_method_29_code 12 = .ok (.iload_n 1, 1) := by decide +kernel
theorem d_R_append_13 : decode prog_14_method_29_code 13 = .ok (.invokevirtual 125, 3) := by decide +kernel
theorem d_R_append_16 : decode prog_14_method_29_code 16 = .ok (.aload_n 0, 1) := by decide +kernel
theorem d_R_append_17 : decode prog_14_method_29_code 17 = .ok (.iload_n 2, 1) := by decide +kernel
theorem d_R_append_18 : decode prog_14_method_29_code 18 = .ok (.invokevirtual 125, 3) := by decide +kernel
theorem d_R_append_21 : decode prog_14_method_29_code 21 = .ok (.aload_n 0, 1) := by decide +kernel
theorem d_R_append_22 : decode prog_14_method_29_code 22 = .ok (.iload_n 3, 1) := by decide +kernel
theorem d_R_append_23 : decode prog_14_method_29_code 23 = .ok (.invokevirtual 125, 3) := by decide +kernel
theorem d_R_append_26 : decode prog_14_method_29_code 26 = .ok (.aload_n 0, 1) := by decide +kernel
theorem d_R_append_27 : decode prog_14_method_29_code 27 = .ok (.iload 4, 2) := by decide +kernel
theorem d_R_append_29 : decode prog_14_method_29_code 29 = .ok (.invokevirtual 125, 3) := by decide +kernel
theorem d_R_append_32 : decode prog_14_method_29_code 32 = .ok (.aload_n 0, 1) := by decide +kernel
theorem d_R_append_33 : decode prog_14_method_29_code 33 = .ok (.iload 5, 2) := by decide +kernel
theorem d_R_append_35 : decode prog_14_method_29_code 35 = .ok (.invokevirtual 125, 3) := by decide +kernel
theorem d_R_append_38 : decode prog_14_method_29_code 38 = .ok (.aload_n 0, 1) := by decide +kernel
theorem d_R_append_39 : decode prog_14_method_29_code 39 = .ok (.aload_n 0, 1) := by decide +kernel
theorem d_R_append_40 : decode prog_14_method_29_code 40 = .ok (.getfield 64, 3) := by decide +kernel
theorem d_R_append_43 : decode prog_14_method_29_code 43 = .ok (.sipush 800, 3) := by decide +kernel
theorem d_R_append_46 : decode prog_14_method_29_code 46 = .ok (.if_icmp .gt 7, 3) := by decide +kernel
theorem d_R_append_49 : decode prog_14_method_29_code 49 = .ok (.iconst 1, 1) := by decide +kernel
theorem d_R_append_50 : decode prog_14_method_29_code 50 = .ok (.goto 4, 3) := by decide +kernel
theorem d_R_append_53 : decode prog_14_method_29_code 53 = .ok (.iconst 0, 1) := by decide +kernel
theorem d_R_append_54 : decode prog_14_method_29_code 54 = .ok (.iconst 1, 1) := by decide +kernel
theorem d_R_append_55 : decode prog_14_method_29_code 55 = .ok (.invokevirtual 128, 3) := by decide +kernel
theorem d_R_append_58 : decode prog_14_method_29_code 58 = .ok (.ifCond .eq 8, 3) := by decide +kernel
theorem d_R_append_61 : decode prog_14_method_29_code 61 = .ok (.aload_n 0, 1) := by decide +kernel
theorem d_R_append_62 : decode prog_14_method_29_code 62 = .ok (.getfield 64, 3) := by decide +kernel
theorem d_R_append_65 : decode prog_14_method_29_code 65 = .ok (.ireturn, 1) := by decide +kernel
theorem d_R_append_66 : decode prog_14_method_29_code 66 = .ok (.aload_n 0, 1) := by decide +kernel
theorem d_R_append_67 : decode prog_14_method_29_code 67 = .ok (.iload 6, 2) := by decide +kernel
theorem d_R_append_69 : decode prog_14_method_29_code 69 = .ok (.putfield 64, 3) := by decide +kernel
theorem d_R_append_72 : decode prog_14_method_29_code 72 = .ok (.iconst 0, 1) := by decide +kernel
theorem d_R_append_73 : decode prog_14_method_29_code 73 = .ok (.ireturn, 1) := by decide +kernel
theorem d_R_inQueue_0 : decode prog_14_method_96_code 0 = .ok (.iconst 0, 1) := by decide +kernel
theorem d_R_inQueue_1 : decode prog_14_method_96_code 1 = .ok (.istore_n 2, 1) := by decide +kernel
theorem d_R_inQueue_2 : decode prog_14_method_96_code 2 = .ok (.iload_n 2, 1) := by decide +kernel
theorem d_R_inQueue_3 : decode prog_14_method_96_code 3 = .ok (.aload_n 0, 1) := by decide +kernel
theorem d_R_inQueue_4 : decode prog_14_method_96_code 4 = .ok (.getfield 7, 3) := by decide +kernel
theorem d_R_inQueue_7 : decode prog_14_method_96_code 7 = .ok (.bipush 12, 2) := by decide +kernel
theorem d_R_inQueue_9 : decode prog_14_method_96_code 9 = .ok (.iaload, 1) := by decide +kernel
theorem d_R_inQueue_10 : decode prog_14_method_96_code 10 = .ok (.if_icmp .ge 25, 3) := by decide +kernel
theorem d_R_inQueue_13 : decode prog_14_method_96_code 13 = .ok (.aload_n 0, 1) := by decide +kernel
theorem d_R_inQueue_14 : decode prog_14_method_96_code 14 = .ok (.getfield 7, 3) := by decide +kernel
theorem d_R_inQueue_17 : decode prog_14_method_96_code 17 = .ok (.sipush 500, 3) := by decide +kernel
theorem d_R_inQueue_20 : decode prog_14_method_96_code 20 = .ok (.iload_n 2, 1) := by decide +kernel
theorem d_R_inQueue_21 : decode prog_14_method_96_code 21 = .ok (.iadd, 1) := by decide +kernel
theorem d_R_inQueue_22 : decode prog_14_method_96_code 22 = .ok (.iaload, 1) := by decide +kernel
theorem d_R_inQueue_23 : decode prog_14_method_96_code 23 = .ok (.iload_n 1, 1) := by decide +kernel
theorem d_R_inQueue_24 : decode prog_14_method_96_code 24 = .ok (.if_icmp .ne 5, 3) := by decide +kernel
theorem d_R_inQueue_27 : decode prog_14_method_96_code 27 = .ok (.iload_n 2, 1) := by decide +kernel
theorem d_R_inQueue_28 : decode prog_14_method_96_code 28 = .ok (.ireturn, 1) := by decide +kernel
theorem d_R_inQueue_29 : decode prog_14_method_96_code 29 = .ok (.iinc 2 1, 3) := by decide +kernel
theorem d_R_inQueue_32 : decode prog_14_method_96_code 32 = .ok (.goto (-30), 3) := by decide +kernel
theorem d_R_inQueue_35 : decode prog_14_method_96_code 35 = .ok (.iconst (-1), 1) := by decide +kernel
theorem d_R_inQueue_36 : decode prog_14_method_96_code 36 = .ok (.ireturn, 1) := by decide +kernel
theorem d_R_asking_0 : decode prog_14_method_123_code 0 = .ok (.aload_n 0, 1) := by decide +kernel
theorem d_R_asking_1 : decode prog_14_method_123_code 1 = .ok (.aload_n 0, 1) := by decide +kernel
theorem d_R_asking_2 : decode prog_14_method_123_code 2 = .ok (.iload_n 1, 1) := by decide +kernel
theorem d_R_asking_3 : decode prog_14_method_123_code 3 = .ok (.invokevirtual 346, 3) := by decide +kernel
theorem d_R_asking_6 : decode prog_14_method_123_code 6 = .ok (.iconst 1, 1) := by decide +kernel
theorem d_R_asking_7 : decode prog_14_method_123_code 7 = .ok (.invokevirtual 128, 3) := by decide +kernel
theorem d_R_asking_10 : decode prog_14_method_123_code 10 = .ok (.ifCond .eq 25, 3) := by decide +kernel
theorem d_R_asking_13 : decode prog_14_method_123_code 13 = .ok (.aload_n 0, 1) := by decide +kernel
theorem d_R_asking_14 : decode prog_14_method_123_code 14 = .ok (.aload_n 0, 1) := by decide +kernel
theorem d_R_asking_15 : decode prog_14_method_123_code 15 = .ok (.iload_n 1, 1) := by decide +kernel
theorem d_R_asking_16 : decode prog_14_method_123_code 16 = .ok (.invokevirtual 352, 3) := by decide +kernel
theorem d_R_asking_19 : decode prog_14_method_123_code 19 = .ok (.iconst (-1), 1) := by decide +kernel
theorem d_R_asking_20 : decode prog_14_method_123_code 20 = .ok (.if_icmp .ne 7, 3) := by decide +kernel
theorem d_R_asking_23 : decode prog_14_method_123_code 23 = .ok (.iconst 1, 1) := by decide +kernel
theorem d_R_asking_24 : decode prog_14_method_123_code 24 = .ok (.goto 4, 3) := by decide +kernel
theorem d_R_asking_27 : decode prog_14_method_123_code 27 = .ok (.iconst 0, 1) := by decide +kernel
theorem d_R_asking_28 : decode prog_14_method_123_code 28 = .ok (.iconst 2, 1) := by decide +kernel
theorem d_R_asking_29 : decode prog_14_method_123_code 29 = .ok (.invokevirtual 128, 3) := by decide +kernel
theorem d_R_asking_32 : decode prog_14_method_123_code 32 = .ok (.ifCond .ne 5, 3) := by decide +kernel
theorem d_R_asking_35 : decode prog_14_method_123_code 35 = .ok (.iconst 0, 1) := by decide +kernel
theorem d_R_asking_36 : decode prog_14_method_123_code 36 = .ok (.ireturn, 1) := by decide +kernel
theorem d_R_asking_37 : decode prog_14_method_123_code 37 = .ok (.aload_n 0, 1) := by decide +kernel
theorem d_R_asking_38 : decode prog_14_method_123_code 38 = .ok (.invokevirtual 382, 3) := by decide +kernel
theorem d_R_asking_41 : decode prog_14_method_123_code 41 = .ok (.aload_n 0, 1) := by decide +kernel
theorem d_R_asking_42 : decode prog_14_method_123_code 42 = .ok (.getfield 7, 3) := by decide +kernel
theorem d_R_asking_45 : decode prog_14_method_123_code 45 = .ok (.sipush 500, 3) := by decide +kernel
theorem d_R_asking_48 : decode prog_14_method_123_code 48 = .ok (.aload_n 0, 1) := by decide +kernel
theorem d_R_asking_49 : decode prog_14_method_123_code 49 = .ok (.getfield 7, 3) := by decide +kernel
theorem d_R_asking_52 : decode prog_14_method_123_code 52 = .ok (.bipush 12, 2) := by decide +kernel
theorem d_R_asking_54 : decode prog_14_method_123_code 54 = .ok (.iaload, 1) := by decide +kernel
theorem d_R_asking_55 : decode prog_14_method_123_code 55 = .ok (.iadd, 1) := by decide +kernel
theorem d_R_asking_56 : decode prog_14_method_123_code 56 = .ok (.iload_n 1, 1) := by decide +kernel
theorem d_R_asking_57 : decode prog_14_method_123_code 57 = .ok (.iastore, 1) := by decide +kernel
theorem d_R_asking_58 : decode prog_14_method_123_code 58 = .ok (.aload_n 0, 1) := by decide +kernel
theorem d_R_asking_59 : decode prog_14_method_123_code 59 = .ok (.getfield 7, 3) := by decide +kernel
theorem d_R_asking_62 : decode prog_14_method_123_code 62 = .ok (.bipush 12, 2) := by decide +kernel
theorem d_R_asking_64 : decode prog_14_method_123_code 64 = .ok (.dup2, 1) := by decide +kernel
theorem d_R_asking_65 : decode prog_14_method_123_code 65 = .ok (.iaload, 1) := by decide +kernel
theorem d_R_asking_66 : decode prog_14_method_123_code 66 = .ok (.iconst 1, 1) := by decide +kernel
theorem d_R_asking_67 : decode prog_14_method_123_code 67 = .ok (.iadd, 1) := by decide +kernel
theorem d_R_asking_68 : decode prog_14_method_123_code 68 = .ok (.iastore, 1) := by decide +kernel
theorem d_R_asking_69 : decode prog_14_method_123_code 69 = .ok (.aload_n 0, 1) := by decide +kernel
theorem d_R_asking_70 : decode prog_14_method_123_code 70 = .ok (.getfield 7, 3) := by decide +kernel
theorem d_R_asking_73 : decode prog_14_method_123_code 73 = .ok (.bipush 12, 2) := by decide +kernel
theorem d_R_asking_75 : decode prog_14_method_123_code 75 = .ok (.iaload, 1) := by decide +kernel
theorem d_R_asking_76 : decode prog_14_method_123_code 76 = .ok (.ireturn, 1) := by decide +kernel
theorem d_R_ask_0 : decode prog_14_method_124_code 0 = .ok (.aload_n 0, 1) := by decide +kernel
theorem d_R_ask_1 : decode prog_14_method_124_code 1 = .ok (.iconst 0, 1) := by decide +kernel
theorem d_R_ask_2 : decode prog_14_method_124_code 2 = .ok (.putfield 73, 3) := by decide +kernel
theorem d_R_ask_5 : decode prog_14_method_124_code 5 = .ok (.aload_n 0, 1) := by decide +kernel
theorem d_R_ask_6 : decode prog_14_method_124_code 6 = .ok (.iload_n 1, 1) := by decide +kernel
theorem d_R_ask_7 : decode prog_14_method_124_code 7 = .ok (.invokevirtual 301, 3) := by decide +kernel
theorem d_R_ask_10 : decode prog_14_method_124_code 10 = .ok (.ireturn, 1) := by decide +kernel
theorem d_R_askedOwl_0 : decode prog_14_method_101_code 0 = .ok (.aload_n 0, 1) := by decide +kernel
theorem d_R_askedOwl_1 : decode prog_14_method_101_code 1 = .ok (.iconst 0, 1) := by decide +kernel
theorem d_R_askedOwl_2 : decode prog_14_method_101_code 2 = .ok (.putfield 73, 3) := by decide +kernel
theorem d_R_askedOwl_5 : decode prog_14_method_101_code 5 = .ok (.aload_n 0, 1) := by decide +kernel
theorem d_R_askedOwl_6 : decode prog_14_method_101_code 6 = .ok (.iload_n 1, 1) := by decide +kernel
theorem d_R_askedOwl_7 : decode prog_14_method_101_code 7 = .ok (.iconst 0, 1) := by decide +kernel
theorem d_R_askedOwl_8 : decode prog_14_method_101_code 8 = .ok (.aload_n 0, 1) := by decide +kernel
theorem d_R_askedOwl_9 : decode prog_14_method_101_code 9 = .ok (.getfield 7, 3) := by decide +kernel
theorem d_R_askedOwl_12 : decode prog_14_method_101_code 12 = .ok (.bipush 9, 2) := by decide +kernel
theorem d_R_askedOwl_14 : decode prog_14_method_101_code 14 = .ok (.iaload, 1) := by decide +kernel
theorem d_R_askedOwl_15 : decode prog_14_method_101_code 15 = .ok (.iconst 1, 1) := by decide +kernel
theorem d_R_askedOwl_16 : decode prog_14_method_101_code 16 = .ok (.isub, 1) := by decide +kernel
theorem d_R_askedOwl_17 : decode prog_14_method_101_code 17 = .ok (.invokestatic 76, 3) := by decide +kernel
theorem d_R_askedOwl_20 : decode prog_14_method_101_code 20 = .ok (.iconst 1, 1) := by decide +kernel
theorem d_R_askedOwl_21 : decode prog_14_method_101_code 21 = .ok (.invokevirtual 128, 3) := by decide +kernel
theorem d_R_askedOwl_24 : decode prog_14_method_101_code 24 = .ok (.ifCond .eq 12, 3) := by decide +kernel
theorem d_R_askedOwl_27 : decode prog_14_method_101_code 27 = .ok (.aload_n 0, 1) := by decide +kernel
theorem d_R_askedOwl_28 : decode prog_14_method_101_code 28 = .ok (.iload_n 1, 1) := by decide +kernel
theorem d_R_askedOwl_29 : decode prog_14_method_101_code 29 = .ok (.iload_n 2, 1) := by decide +kernel
theorem d_R_askedOwl_30 : decode prog_14_method_101_code 30 = .ok (.invokevirtual 95, 3) := by decide +kernel
theorem d_R_askedOwl_33 : decode prog_14_method_101_code 33 = .ok (.goto 4, 3) := by decide +kernel
theorem d_R_askedOwl_36 : decode prog_14_method_101_code 36 = .ok (.iconst 0, 1) := by decide +kernel
theorem d_R_askedOwl_37 : decode prog_14_method_101_code 37 = .ok (.ireturn, 1) := by decide +kernel
theorem d_R_back_0 : decode prog_14_method_27_code 0 = .ok (.iconst 0, 1) := by decide +kernel
theorem d_R_back_1 : decode prog_14_method_27_code 1 = .ok (.istore_n 2, 1) := by decide +kernel
theorem d_R_back_2 : decode prog_14_method_27_code 2 = .ok (.iload_n 2, 1) := by decide +kernel
theorem d_R_back_3 : decode prog_14_method_27_code 3 = .ok (.sipush 524, 3) := by decide +kernel
theorem d_R_back_6 : decode prog_14_method_27_code 6 = .ok (.if_icmp .ge 21, 3) := by decide +kernel
theorem d_R_back_9 : decode prog_14_method_27_code 9 = .ok (.aload_n 0, 1) := by decide +kernel
theorem d_R_back_10 : decode prog_14_method_27_code 10 = .ok (.getfield 7, 3) := by decide +kernel
theorem d_R_back_13 : decode prog_14_method_27_code 13 = .ok (.iload_n 2, 1) := by decide +kernel
theorem d_R_back_14 : decode prog_14_method_27_code 14 = .ok (.aload_n 0, 1) := by decide +kernel
theorem d_R_back_15 : decode prog_14_method_27_code 15 = .ok (.getfield 13, 3) := by decide +kernel
theorem d_R_back_18 : decode prog_14_method_27_code 18 = .ok (.iload_n 2, 1) := by decide +kernel
theorem d_R_back_19 : decode prog_14_method_27_code 19 = .ok (.iaload, 1) := by decide +kernel
theorem d_R_back_20 : decode prog_14_method_27_code 20 = .ok (.iastore, 1) := by decide +kernel
theorem d_R_back_21 : decode prog_14_method_27_code 21 = .ok (.iinc 2 1, 3) := by decide +kernel
theorem d_R_back_24 : decode prog_14_method_27_code 24 = .ok (.goto (-22), 3) := by decide +kernel
theorem d_R_back_27 : decode prog_14_method_27_code 27 = .ok (.iload_n 1, 1) := by decide +kernel
theorem d_R_back_28 : decode prog_14_method_27_code 28 = .ok (.ireturn, 1) := by decide +kernel
theorem d_R_tells_0 : decode prog_14_method_71_code 0 = .ok (.aload_n 0, 1) := by decide +kernel
theorem d_R_tells_1 : decode prog_14_method_71_code 1 = .ok (.iconst 0, 1) := by decide +kernel
theorem d_R_tells_2 : decode prog_14_method_71_code 2 = .ok (.putfield 73, 3) := by decide +kernel
theorem d_R_tells_5 : decode prog_14_method_71_code 5 = .ok (.aload_n 0, 1) := by decide +kernel
theorem d_R_tells_6 : decode prog_14_method_71_code 6 = .ok (.getfield 7, 3) := by decide +kernel
theorem d_R_tells_9 : decode prog_14_method_71_code 9 = .ok (.iload_n 1, 1) := by decide +kernel
theorem d_R_tells_10 : decode prog_14_method_71_code 10 = .ok (.iaload, 1) := by decide +kernel
theorem d_R_tells_11 : decode prog_14_method_71_code 11 = .ok (.ireturn, 1) := by decide +kernel
theorem d_R_cash_0 : decode prog_14_method_73_code 0 = .ok (.aload_n 0, 1) := by decide +kernel
theorem d_R_cash_1 : decode prog_14_method_73_code 1 = .ok (.iconst 0, 1) := by decide +kernel
theorem d_R_cash_2 : decode prog_14_method_73_code 2 = .ok (.invokevirtual 324, 3) := by decide +kernel
theorem d_R_cash_5 : decode prog_14_method_73_code 5 = .ok (.ireturn, 1) := by decide +kernel
theorem d_R_tries_0 : decode prog_14_method_26_code 0 = .ok (.iconst 0, 1) := by decide +kernel
theorem d_R_tries_1 : decode prog_14_method_26_code 1 = .ok (.istore_n 1, 1) := by decide +kernel
theorem d_R_tries_2 : decode prog_14_method_26_code 2 = .ok (.iload_n 1, 1) := by decide +kernel
theorem d_R_tries_3 : decode prog_14_method_26_code 3 = .ok (.sipush 524, 3) := by decide +kernel
theorem d_R_tries_6 : decode prog_14_method_26_code 6 = .ok (.if_icmp .ge 21, 3) := by decide +kernel
theorem d_R_tries_9 : decode prog_14_method_26_code 9 = .ok (.aload_n 0, 1) := by decide +kernel
theorem d_R_tries_10 : decode prog_14_method_26_code 10 = .ok (.getfield 13, 3) := by decide +kernel
theorem d_R_tries_13 : decode prog_14_method_26_code 13 = .ok (.iload_n 1, 1) := by decide +kernel
theorem d_R_tries_14 : decode prog_14_method_26_code 14 = .ok (.aload_n 0, 1) := by decide +kernel
theorem d_R_tries_15 : decode prog_14_method_26_code 15 = .ok (.getfield 7, 3) := by decide +kernel
theorem d_R_tries_18 : decode prog_14_method_26_code 18 = .ok (.iload_n 1, 1) := by decide +kernel
theorem d_R_tries_19 : decode prog_14_method_26_code 19 = .ok (.iaload, 1) := by decide +kernel
theorem d_R_tries_20 : decode prog_14_method_26_code 20 = .ok (.iastore, 1) := by decide +kernel
theorem d_R_tries_21 : decode prog_14_method_26_code 21 = .ok (.iinc 1 1, 3) := by decide +kernel
theorem d_R_tries_24 : decode prog_14_method_26_code 24 = .ok (.goto (-22), 3) := by decide +kernel
theorem d_R_tries_27 : decode prog_14_method_26_code 27 = .ok (.return_, 1) := by decide +kernel
theorem d_R_cashAfter_0 : decode prog_14_method_113_code 0 = .ok (.aload_n 0, 1) := by decide +kernel
theorem d_R_cashAfter_1 : decode prog_14_method_113_code 1 = .ok (.iconst 0, 1) := by decide +kernel
theorem d_R_cashAfter_2 : decode prog_14_method_113_code 2 = .ok (.putfield 73, 3) := by decide +kernel
theorem d_R_cashAfter_5 : decode prog_14_method_113_code 5 = .ok (.aload_n 0, 1) := by decide +kernel
theorem d_R_cashAfter_6 : decode prog_14_method_113_code 6 = .ok (.iload_n 1, 1) := by decide +kernel
theorem d_R_cashAfter_7 : decode prog_14_method_113_code 7 = .ok (.iconst 0, 1) := by decide +kernel
theorem d_R_cashAfter_8 : decode prog_14_method_113_code 8 = .ok (.sipush 300, 3) := by decide +kernel
theorem d_R_cashAfter_11 : decode prog_14_method_113_code 11 = .ok (.invokestatic 76, 3) := by decide +kernel
theorem d_R_cashAfter_14 : decode prog_14_method_113_code 14 = .ok (.iconst 1, 1) := by decide +kernel
theorem d_R_cashAfter_15 : decode prog_14_method_113_code 15 = .ok (.invokevirtual 128, 3) := by decide +kernel
theorem d_R_cashAfter_18 : decode prog_14_method_113_code 18 = .ok (.ifCond .ne 5, 3) := by decide +kernel
theorem d_R_cashAfter_21 : decode prog_14_method_113_code 21 = .ok (.iconst 0, 1) := by decide +kernel
theorem d_R_cashAfter_22 : decode prog_14_method_113_code 22 = .ok (.ireturn, 1) := by decide +kernel
theorem d_R_cashAfter_23 : decode prog_14_method_113_code 23 = .ok (.aload_n 0, 1) := by decide +kernel
theorem d_R_cashAfter_24 : decode prog_14_method_113_code 24 = .ok (.invokevirtual 364, 3) := by decide +kernel
theorem d_R_cashAfter_27 : decode prog_14_method_113_code 27 = .ok (.iconst 0, 1) := by decide +kernel
theorem d_R_cashAfter_28 : decode prog_14_method_113_code 28 = .ok (.istore_n 2, 1) := by decide +kernel
theorem d_R_cashAfter_29 : decode prog_14_method_113_code 29 = .ok (.iload_n 2, 1) := by decide +kernel
theorem d_R_cashAfter_30 : decode prog_14_method_113_code 30 = .ok (.iload_n 1, 1) := by decide +kernel
theorem d_R_cashAfter_31 : decode prog_14_method_113_code 31 = .ok (.if_icmp .ge 13, 3) := by decide +kernel
theorem d_R_cashAfter_34 : decode prog_14_method_113_code 34 = .ok (.aload_n 0, 1) := by decide +kernel
theorem d_R_cashAfter_35 : decode prog_14_method_113_code 35 = .ok (.invokevirtual 370, 3) := by decide +kernel
theorem d_R_cashAfter_38 : decode prog_14_method_113_code 38 = .ok (.iinc 2 1, 3) := by decide +kernel
theorem d_R_cashAfter_41 : decode prog_14_method_113_code 41 = .ok (.goto (-12), 3) := by decide +kernel
theorem d_R_cashAfter_44 : decode prog_14_method_113_code 44 = .ok (.aload_n 0, 1) := by decide +kernel
theorem d_R_cashAfter_45 : decode prog_14_method_113_code 45 = .ok (.aload_n 0, 1) := by decide +kernel
theorem d_R_cashAfter_46 : decode prog_14_method_113_code 46 = .ok (.getfield 7, 3) := by decide +kernel
theorem d_R_cashAfter_49 : decode prog_14_method_113_code 49 = .ok (.iconst 0, 1) := by decide +kernel
theorem d_R_cashAfter_50 : decode prog_14_method_113_code 50 = .ok (.iaload, 1) := by decide +kernel
theorem d_R_cashAfter_51 : decode prog_14_method_113_code 51 = .ok (.invokevirtual 367, 3) := by decide +kernel
theorem d_R_cashAfter_54 : decode prog_14_method_113_code 54 = .ok (.ireturn, 1) := by decide +kernel
theorem d_R_isWord_0 : decode prog_14_method_39_code 0 = .ok (.aload_n 0, 1) := by decide +kernel
theorem d_R_isWord_1 : decode prog_14_method_39_code 1 = .ok (.getfield 156, 3) := by decide +kernel
theorem d_R_isWord_4 : decode prog_14_method_39_code 4 = .ok (.ifCond .ne 27, 3) := by decide +kernel
theorem d_R_isWord_7 : decode prog_14_method_39_code 7 = .ok (.aload_n 0, 1) := by decide +kernel
theorem d_R_isWord_8 : decode prog_14_method_39_code 8 = .ok (.getfield 144, 3) := by decide +kernel
theorem d_R_isWord_11 : decode prog_14_method_39_code 11 = .ok (.iconst 1, 1) := by decide +kernel
theorem d_R_isWord_12 : decode prog_14_method_39_code 12 = .ok (.if_icmp .ne 19, 3) := by decide +kernel
theorem d_R_isWord_15 : decode prog_14_method_39_code 15 = .ok (.aload_n 0, 1) := by decide +kernel
theorem d_R_isWord_16 : decode prog_14_method_39_code 16 = .ok (.getfield 135, 3) := by decide +kernel
theorem d_R_isWord_19 : decode prog_14_method_39_code 19 = .ok (.aload_n 0, 1) := by decide +kernel
theorem d_R_isWord_20 : decode prog_14_method_39_code 20 = .ok (.getfield 141, 3) := by decide +kernel
theorem d_R_isWord_23 : decode prog_14_method_39_code 23 = .ok (.isub, 1) := by decide +kernel
theorem d_R_isWord_24 : decode prog_14_method_39_code 24 = .ok (.aload_n 1, 1) := by decide +kernel
theorem d_R_isWord_25 : decode prog_14_method_39_code 25 = .ok (.invokevirtual 54, 3) := by decide +kernel
theorem d_R_isWord_28 : decode prog_14_method_39_code 28 = .ok (.if_icmp .eq 5, 3) := by decide +kernel
theorem d_R_isWord_31 : decode prog_14_method_39_code 31 = .ok (.iconst 0, 1) := by decide +kernel
theorem d_R_isWord_32 : decode prog_14_method_39_code 32 = .ok (.ireturn, 1) := by decide +kernel
theorem d_R_isWord_33 : decode prog_14_method_39_code 33 = .ok (.iconst 0, 1) := by decide +kernel
theorem d_R_isWord_34 : decode prog_14_method_39_code 34 = .ok (.istore_n 2, 1) := by decide +kernel
theorem d_R_isWord_35 : decode prog_14_method_39_code 35 = .ok (.iload_n 2, 1) := by decide +kernel
theorem d_R_isWord_36 : decode prog_14_method_39_code 36 = .ok (.aload_n 1, 1) := by decide +kernel
theorem d_R_isWord_37 : decode prog_14_method_39_code 37 = .ok (.invokevirtual 54, 3) := by decide +kernel
theorem d_R_isWord_40 : decode prog_14_method_39_code 40 = .ok (.if_icmp .ge 30, 3) := by decide +kernel
theorem d_R_isWord_43 : decode prog_14_method_39_code 43 = .ok (.aload_n 0, 1) := by decide +kernel
theorem d_R_isWord_44 : decode prog_14_method_39_code 44 = .ok (.getfield 29, 3) := by decide +kernel
theorem d_R_isWord_47 : decode prog_14_method_39_code 47 = .ok (.aload_n 0, 1) := by decide +kernel
theorem d_R_isWord_48 : decode prog_14_method_39_code 48 = .ok (.getfield 141, 3) := by decide +kernel
theorem d_R_isWord_51 : decode prog_14_method_39_code 51 = .ok (.iload_n 2, 1) := by decide +kernel
theorem d_R_isWord_52 : decode prog_14_method_39_code 52 = .ok (.iadd, 1) := by decide +kernel
theorem d_R_isWord_53 : decode prog_14_method_39_code 53 = .ok (.iaload, 1) := by decide +kernel
theorem d_R_isWord_54 : decode prog_14_method_39_code 54 = .ok (.aload_n 1, 1) := by decide +kernel
theorem d_R_isWord_55 : decode prog_14_method_39_code 55 = .ok (.iload_n 2, 1) := by decide +kernel
theorem d_R_isWord_56 : decode prog_14_method_39_code 56 = .ok (.invokevirtual 60, 3) := by decide +kernel
theorem d_R_isWord_59 : decode prog_14_method_39_code 59 = .ok (.if_icmp .eq 5, 3) := by decide +kernel
theorem d_R_isWord_62 : decode prog_14_method_39_code 62 = .ok (.iconst 0, 1) := by decide +kernel
theorem d_R_isWord_63 : decode prog_14_method_39_code 63 = .ok (.ireturn, 1) := by decide +kernel
theorem d_R_isWord_64 : decode prog_14_method_39_code 64 = .ok (.iinc 2 1, 3) := by decide +kernel
theorem d_R_isWord_67 : decode prog_14_method_39_code 67 = .ok (.goto (-32), 3) := by decide +kernel
theorem d_R_isWord_70 : decode prog_14_method_39_code 70 = .ok (.iconst 1, 1) := by decide +kernel
theorem d_R_isWord_71 : decode prog_14_method_39_code 71 = .ok (.ireturn, 1) := by decide +kernel
theorem d_R_commandHere_0 : decode prog_14_method_61_code 0 = .ok (.aload_n 0, 1) := by decide +kernel
theorem d_R_commandHere_1 : decode prog_14_method_61_code 1 = .ok (.ldc 236, 2) := by decide +kernel
theorem d_R_commandHere_3 : decode prog_14_method_61_code 3 = .ok (.invokevirtual 200, 3) := by decide +kernel
theorem d_R_commandHere_6 : decode prog_14_method_61_code 6 = .ok (.ifCond .eq 5, 3) := by decide +kernel
theorem d_R_commandHere_9 : decode prog_14_method_61_code 9 = .ok (.iconst 0, 1) := by decide +kernel
theorem d_R_commandHere_10 : decode prog_14_method_61_code 10 = .ok (.ireturn, 1) := by decide +kernel
theorem d_R_commandHere_11 : decode prog_14_method_61_code 11 = .ok (.aload_n 0, 1) := by decide +kernel
theorem d_R_commandHere_12 : decode prog_14_method_61_code 12 = .ok (.ldc 238, 2) := by decide +kernel
theorem d_R_commandHere_14 : decode prog_14_method_61_code 14 = .ok (.invokevirtual 200, 3) := by decide +kernel
theorem d_R_commandHere_17 : decode prog_14_method_61_code 17 = .ok (.ifCond .eq 5, 3) := by decide +kernel
theorem d_R_commandHere_20 : decode prog_14_method_61_code 20 = .ok (.iconst 1, 1) := by decide +kernel
theorem d_R_commandHere_21 : decode prog_14_method_61_code 21 = .ok (.ireturn, 1) := by decide +kernel
theorem d_R_commandHere_22 : decode prog_14_method_61_code 22 = .ok (.aload_n 0, 1) := by decide +kernel
theorem d_R_commandHere_23 : decode prog_14_method_61_code 23 = .ok (.ldc 240, 2) := by decide +kernel
theorem d_R_commandHere_25 : decode prog_14_method_61_code 25 = .ok (.invokevirtual 200, 3) := by decide +kernel
theorem d_R_commandHere_28 : decode prog_14_method_61_code 28 = .ok (.ifCond .eq 5, 3) := by decide +kernel
theorem d_R_commandHere_31 : decode prog_14_method_61_code 31 = .ok (.iconst 2, 1) := by decide +kernel
theorem d_R_commandHere_32 : decode prog_14_method_61_code 32 = .ok (.ireturn, 1) := by decide +kernel
theorem d_R_commandHere_33 : decode prog_14_method_61_code 33 = .ok (.aload_n 0, 1) := by decide +kernel
theorem d_R_commandHere_34 : decode prog_14_method_61_code 34 = .ok (.ldc 242, 2) := by decide +kernel
theorem d_R_commandHere_36 : decode prog_14_method_61_code 36 = .ok (.invokevirtual 200, 3) := by decide +kernel
theorem d_R_commandHere_39 : decode prog_14_method_61_code 39 = .ok (.ifCond .eq 5, 3) := by decide +kernel
theorem d_R_commandHere_42 : decode prog_14_method_61_code 42 = .ok (.iconst 3, 1) := by decide +kernel
theorem d_R_commandHere_43 : decode prog_14_method_61_code 43 = .ok (.ireturn, 1) := by decide +kernel
theorem d_R_commandHere_44 : decode prog_14_method_61_code 44 = .ok (.aload_n 0, 1) := by decide +kernel
theorem d_R_commandHere_45 : decode prog_14_method_61_code 45 = .ok (.ldc 244, 2) := by decide +kernel
theorem d_R_commandHere_47 : decode prog_14_method_61_code 47 = .ok (.invokevirtual 200, 3) := by decide +kernel
theorem d_R_commandHere_50 : decode prog_14_method_61_code 50 = .ok (.ifCond .eq 7, 3) := by decide +kernel
theorem d_R_commandHere_53 : decode prog_14_method_61_code 53 = .ok (.iconst 4, 1) := by decide +kernel
theorem d_R_commandHere_54 : decode prog_14_method_61_code 54 = .ok (.goto 4, 3) := by decide +kernel
theorem d_R_commandHere_57 : decode prog_14_method_61_code 57 = .ok (.iconst (-1), 1) := by decide +kernel
theorem d_R_commandHere_58 : decode prog_14_method_61_code 58 = .ok (.ireturn, 1) := by decide +kernel
theorem d_R_contradictions_0 : decode prog_14_method_110_code 0 = .ok (.aload_n 0, 1) := by decide +kernel
theorem d_R_contradictions_1 : decode prog_14_method_110_code 1 = .ok (.iconst 0, 1) := by decide +kernel
theorem d_R_contradictions_2 : decode prog_14_method_110_code 2 = .ok (.putfield 73, 3) := by decide +kernel
theorem d_R_contradictions_5 : decode prog_14_method_110_code 5 = .ok (.aload_n 0, 1) := by decide +kernel
theorem d_R_contradictions_6 : decode prog_14_method_110_code 6 = .ok (.getfield 7, 3) := by decide +kernel
theorem d_R_contradictions_9 : decode prog_14_method_110_code 9 = .ok (.iconst 0, 1) := by decide +kernel
theorem d_R_contradictions_10 : decode prog_14_method_110_code 10 = .ok (.iaload, 1) := by decide +kernel
theorem d_R_contradictions_11 : decode prog_14_method_110_code 11 = .ok (.istore_n 1, 1) := by decide +kernel
theorem d_R_contradictions_12 : decode prog_14_method_110_code 12 = .ok (.iconst 0, 1) := by decide +kernel
theorem d_R_contradictions_13 : decode prog_14_method_110_code 13 = .ok (.istore_n 2, 1) := by decide +kernel
theorem d_R_contradictions_14 : decode prog_14_method_110_code 14 = .ok (.iconst 0, 1) := by decide +kernel
theorem d_R_contradictions_15 : decode prog_14_method_110_code 15 = .ok (.istore_n 3, 1) := by decide +kernel
theorem d_R_contradictions_16 : decode prog_14_method_110_code 16 = .ok (.iconst 0, 1) := by decide +kernel
theorem d_R_contradictions_17 : decode prog_14_method_110_code 17 = .ok (.istore 4, 2) := by decide +kernel
theorem d_R_contradictions_19 : decode prog_14_method_110_code 19 = .ok (.iload 4, 2) := by decide +kernel
theorem d_R_contradictions_21 : decode prog_14_method_110_code 21 = .ok (.aload_n 0, 1) := by decide +kernel
theorem d_R_contradictions_22 : decode prog_14_method_110_code 22 = .ok (.getfield 7, 3) := by decide +kernel
theorem d_R_contradictions_25 : decode prog_14_method_110_code 25 = .ok (.bipush 8, 2) := by decide +kernel
theorem d_R_contradictions_27 : decode prog_14_method_110_code 27 = .ok (.iaload, 1) := by decide +kernel
theorem d_R_contradictions_28 : decode prog_14_method_110_code 28 = .ok (.if_icmp .ge 19, 3) := by decide +kernel
theorem d_R_contradictions_31 : decode prog_14_method_110_code 31 = .ok (.iload_n 1, 1) := by decide +kernel
theorem d_R_contradictions_32 : decode prog_14_method_110_code 32 = .ok (.aload_n 0, 1) := by decide +kernel
theorem d_R_contradictions_33 : decode prog_14_method_110_code 33 = .ok (.iload 4, 2) := by decide +kernel
theorem d_R_contradictions_35 : decode prog_14_method_110_code 35 = .ok (.iconst 1, 1) := by decide +kernel
theorem d_R_contradictions_36 : decode prog_14_method_110_code 36 = .ok (.invokevirtual 101, 3) := by decide +kernel
theorem d_R_contradictions_39 : decode prog_14_method_110_code 39 = .ok (.iadd, 1) := by decide +kernel
theorem d_R_contradictions_40 : decode prog_14_method_110_code 40 = .ok (.istore_n 1, 1) := by decide +kernel
theorem d_R_contradictions_41 : decode prog_14_method_110_code 41 = .ok (.iinc 4 1, 3) := by decide +kernel
theorem d_R_contradictions_44 : decode prog_14_method_110_code 44 = .ok (.goto (-25), 3) := by decide +kernel
theorem d_R_contradictions_47 : decode prog_14_method_110_code 47 = .ok (.iconst 0, 1) := by decide +kernel
theorem d_R_contradictions_48 : decode prog_14_method_110_code 48 = .ok (.istore 4, 2) := by decide +kernel
theorem d_R_contradictions_50 : decode prog_14_method_110_code 50 = .ok (.iload 4, 2) := by decide +kernel
theorem d_R_contradictions_52 : decode prog_14_method_110_code 52 = .ok (.aload_n 0, 1) := by decide +kernel
theorem d_R_contradictions_53 : decode prog_14_method_110_code 53 = .ok (.getfield 7, 3) := by decide +kernel
theorem d_R_contradictions_56 : decode prog_14_method_110_code 56 = .ok (.bipush 9, 2) := by decide +kernel
theorem d_R_contradictions_58 : decode prog_14_method_110_code 58 = .ok (.iaload, 1) := by decide +kernel
theorem d_R_contradictions_59 : decode prog_14_method_110_code 59 = .ok (.if_icmp .ge 19, 3) := by decide +kernel
theorem d_R_contradictions_62 : decode prog_14_method_110_code 62 = .ok (.iload_n 1, 1) := by decide +kernel
theorem d_R_contradictions_63 : decode prog_14_method_110_code 63 = .ok (.aload_n 0, 1) := by decide +kernel
theorem d_R_contradictions_64 : decode prog_14_method_110_code 64 = .ok (.iload 4, 2) := by decide +kernel
theorem d_R_contradictions_66 : decode prog_14_method_110_code 66 = .ok (.iconst 2, 1) := by decide +kernel
theorem d_R_contradictions_67 : decode prog_14_method_110_code 67 = .ok (.invokevirtual 95, 3) := by decide +kernel
theorem d_R_contradictions_70 : decode prog_14_method_110_code 70 = .ok (.iadd, 1) := by decide +kernel
theorem d_R_contradictions_71 : decode prog_14_method_110_code 71 = .ok (.istore_n 1, 1) := by decide +kernel
theorem d_R_contradictions_72 : decode prog_14_method_110_code 72 = .ok (.iinc 4 1, 3) := by decide +kernel
theorem d_R_contradictions_75 : decode prog_14_method_110_code 75 = .ok (.goto (-25), 3) := by decide +kernel
theorem d_R_contradictions_78 : decode prog_14_method_110_code 78 = .ok (.iconst 0, 1) := by decide +kernel
theorem d_R_contradictions_79 : decode prog_14_method_110_code 79 = .ok (.istore 4, 2) := by decide +kernel
theorem d_R_contradictions_81 : decode prog_14_method_110_code 81 = .ok (.iload 4, 2) := by decide +kernel
theorem d_R_contradictions_83 : decode prog_14_method_110_code 83 = .ok (.aload_n 0, 1) := by decide +kernel
theorem d_R_contradictions_84 : decode prog_14_method_110_code 84 = .ok (.getfield 7, 3) := by decide +kernel
theorem d_R_contradictions_87 : decode prog_14_method_110_code 87 = .ok (.bipush 10, 2) := by decide +kernel
theorem d_R_contradictions_89 : decode prog_14_method_110_code 89 = .ok (.iaload, 1) := by decide +kernel
theorem d_R_contradictions_90 : decode prog_14_method_110_code 90 = .ok (.if_icmp .ge 60, 3) := by decide +kernel
theorem d_R_contradictions_93 : decode prog_14_method_110_code 93 = .ok (.aload_n 0, 1) := by decide +kernel
theorem d_R_contradictions_94 : decode prog_14_method_110_code 94 = .ok (.iload 4, 2) := by decide +kernel
theorem d_R_contradictions_96 : decode prog_14_method_110_code 96 = .ok (.bipush 7, 2) := by decide +kernel
theorem d_R_contradictions_98 : decode prog_14_method_110_code 98 = .ok (.invokevirtual 84, 3) := by decide +kernel
theorem d_R_contradictions_101 : decode prog_14_method_110_code 101 = .ok (.iconst 3, 1) := by decide +kernel
theorem d_R_contradictions_102 : decode prog_14_method_110_code 102 = .ok (.if_icmp .ne 12, 3) := by decide +kernel
theorem d_R_contradictions_105 : decode prog_14_method_110_code 105 = .ok (.iload_n 2, 1) := by decide +kernel
theorem d_R_contradictions_106 : decode prog_14_method_110_code 106 = .ok (.aload_n 0, 1) := by decide +kernel
theorem d_R_contradictions_107 : decode prog_14_method_110_code 107 = .ok (.iload 4, 2) := by decide +kernel
theorem d_R_contradictions_109 : decode prog_14_method_110_code 109 = .ok (.invokevirtual 91, 3) := by decide +kernel
theorem d_R_contradictions_112 : decode prog_14_method_110_code 112 = .ok (.iadd, 1) := by decide +kernel
theorem d_R_contradictions_113 : decode prog_14_method_110_code 113 = .ok (.istore_n 2, 1) := by decide +kernel
theorem d_R_contradictions_114 : decode prog_14_method_110_code 114 = .ok (.aload_n 0, 1) := by decide +kernel
theorem d_R_contradictions_115 : decode prog_14_method_110_code 115 = .ok (.iload 4, 2) := by decide +kernel
theorem d_R_contradictions_117 : decode prog_14_method_110_code 117 = .ok (.bipush 7, 2) := by decide +kernel
theorem d_R_contradictions_119 : decode prog_14_method_110_code 119 = .ok (.invokevirtual 84, 3) := by decide +kernel
theorem d_R_contradictions_122 : decode prog_14_method_110_code 122 = .ok (.ifCond .ne 22, 3) := by decide +kernel
theorem d_R_contradictions_125 : decode prog_14_method_110_code 125 = .ok (.aload_n 0, 1) := by decide +kernel
theorem d_R_contradictions_126 : decode prog_14_method_110_code 126 = .ok (.iload 4, 2) := by decide +kernel
theorem d_R_contradictions_128 : decode prog_14_method_110_code 128 = .ok (.iconst 5, 1) := by decide +kernel
theorem d_R_contradictions_129 : decode prog_14_method_110_code 129 = .ok (.invokevirtual 84, 3) := by decide +kernel
theorem d_R_contradictions_132 : decode prog_14_method_110_code 132 = .ok (.aload_n 0, 1) := by decide +kernel
theorem d_R_contradictions_133 : decode prog_14_method_110_code 133 = .ok (.getfield 7, 3) := by decide +kernel
theorem d_R_contradictions_136 : decode prog_14_method_110_code 136 = .ok (.iconst 5, 1) := by decide +kernel
theorem d_R_contradictions_137 : decode prog_14_method_110_code 137 = .ok (.iaload, 1) := by decide +kernel
theorem d_R_contradictions_138 : decode prog_14_method_110_code 138 = .ok (.if_icmp .ge 6, 3) := by decide +kernel
theorem d_R_contradictions_141 : decode prog_14_method_110_code 141 = .ok (.iinc 3 1, 3) := by decide +kernel
theorem d_R_contradictions_144 : decode prog_14_method_110_code 144 = .ok (.iinc 4 1, 3) := by decide +kernel
theorem d_R_contradictions_147 : decode prog_14_method_110_code 147 = .ok (.goto (-66), 3) := by decide +kernel
theorem d_R_contradictions_150 : decode prog_14_method_110_code 150 = .ok (.iload_n 3, 1) := by decide +kernel
theorem d_R_contradictions_151 : decode prog_14_method_110_code 151 = .ok (.aload_n 0, 1) := by decide +kernel
theorem d_R_contradictions_152 : decode prog_14_method_110_code 152 = .ok (.getfield 7, 3) := by decide +kernel
theorem d_R_contradictions_155 : decode prog_14_method_110_code 155 = .ok (.bipush 15, 2) := by decide +kernel
theorem d_R_contradictions_157 : decode prog_14_method_110_code 157 = .ok (.iaload, 1) := by decide +kernel
theorem d_R_contradictions_158 : decode prog_14_method_110_code 158 = .ok (.iload_n 1, 1) := by decide +kernel
theorem d_R_contradictions_159 : decode prog_14_method_110_code 159 = .ok (.isub, 1) := by decide +kernel
theorem d_R_contradictions_160 : decode prog_14_method_110_code 160 = .ok (.invokestatic 361, 3) := by decide +kernel
theorem d_R_contradictions_163 : decode prog_14_method_110_code 163 = .ok (.iadd, 1) := by decide +kernel
theorem d_R_contradictions_164 : decode prog_14_method_110_code 164 = .ok (.aload_n 0, 1) := by decide +kernel
theorem d_R_contradictions_165 : decode prog_14_method_110_code 165 = .ok (.getfield 7, 3) := by decide +kernel
theorem d_R_contradictions_168 : decode prog_14_method_110_code 168 = .ok (.bipush 14, 2) := by decide +kernel
theorem d_R_contradictions_170 : decode prog_14_method_110_code 170 = .ok (.iaload, 1) := by decide +kernel
theorem d_R_contradictions_171 : decode prog_14_method_110_code 171 = .ok (.iload_n 2, 1) := by decide +kernel
theorem d_R_contradictions_172 : decode prog_14_method_110_code 172 = .ok (.isub, 1) := by decide +kernel
theorem d_R_contradictions_173 : decode prog_14_method_110_code 173 = .ok (.invokestatic 361, 3) := by decide +kernel
theorem d_R_contradictions_176 : decode prog_14_method_110_code 176 = .ok (.iadd, 1) := by decide +kernel
theorem d_R_contradictions_177 : decode prog_14_method_110_code 177 = .ok (.ireturn, 1) := by decide +kernel
theorem d_R_manyIn_0 : decode prog_14_method_104_code 0 = .ok (.iconst 0, 1) := by decide +kernel
theorem d_R_manyIn_1 : decode prog_14_method_104_code 1 = .ok (.istore_n 2, 1) := by decide +kernel
theorem d_R_manyIn_2 : decode prog_14_method_104_code 2 = .ok (.iconst 0, 1) := by decide +kernel
theorem d_R_manyIn_3 : decode prog_14_method_104_code 3 = .ok (.istore_n 3, 1) := by decide +kernel
theorem d_R_manyIn_4 : decode prog_14_method_104_code 4 = .ok (.iload_n 3, 1) := by decide +kernel
theorem d_R_manyIn_5 : decode prog_14_method_104_code 5 = .ok (.aload_n 0, 1) := by decide +kernel
theorem d_R_manyIn_6 : decode prog_14_method_104_code 6 = .ok (.getfield 7, 3) := by decide +kernel
theorem d_R_manyIn_9 : decode prog_14_method_104_code 9 = .ok (.bipush 10, 2) := by decide +kernel
theorem d_R_manyIn_11 : decode prog_14_method_104_code 11 = .ok (.iaload, 1) := by decide +kernel
theorem d_R_manyIn_12 : decode prog_14_method_104_code 12 = .ok (.if_icmp .ge 23, 3) := by decide +kernel
theorem d_R_manyIn_15 : decode prog_14_method_104_code 15 = .ok (.aload_n 0, 1) := by decide +kernel
theorem d_R_manyIn_16 : decode prog_14_method_104_code 16 = .ok (.iload_n 3, 1) := by decide +kernel
theorem d_R_manyIn_17 : decode prog_14_method_104_code 17 = .ok (.bipush 7, 2) := by decide +kernel
theorem d_R_manyIn_19 : decode prog_14_method_104_code 19 = .ok (.invokevirtual 84, 3) := by decide +kernel
theorem d_R_manyIn_22 : decode prog_14_method_104_code 22 = .ok (.iload_n 1, 1) := by decide +kernel
theorem d_R_manyIn_23 : decode prog_14_method_104_code 23 = .ok (.if_icmp .ne 6, 3) := by decide +kernel
theorem d_R_manyIn_26 : decode prog_14_method_104_code 26 = .ok (.iinc 2 1, 3) := by decide +kernel
theorem d_R_manyIn_29 : decode prog_14_method_104_code 29 = .ok (.iinc 3 1, 3) := by decide +kernel
theorem d_R_manyIn_32 : decode prog_14_method_104_code 32 = .ok (.goto (-28), 3) := by decide +kernel
theorem d_R_manyIn_35 : decode prog_14_method_104_code 35 = .ok (.iload_n 2, 1) := by decide +kernel
theorem d_R_manyIn_36 : decode prog_14_method_104_code 36 = .ok (.ireturn, 1) := by decide +kernel
theorem d_R_countIn_0 : decode prog_14_method_105_code 0 = .ok (.aload_n 0, 1) := by decide +kernel
theorem d_R_countIn_1 : decode prog_14_method_105_code 1 = .ok (.iconst 0, 1) := by decide +kernel
theorem d_R_countIn_2 : decode prog_14_method_105_code 2 = .ok (.putfield 73, 3) := by decide +kernel
theorem d_R_countIn_5 : decode prog_14_method_105_code 5 = .ok (.aload_n 0, 1) := by decide +kernel
theorem d_R_countIn_6 : decode prog_14_method_105_code 6 = .ok (.iload_n 1, 1) := by decide +kernel
theorem d_R_countIn_7 : decode prog_14_method_105_code 7 = .ok (.iconst 0, 1) := by decide +kernel
theorem d_R_countIn_8 : decode prog_14_method_105_code 8 = .ok (.iconst 3, 1) := by decide +kernel
theorem d_R_countIn_9 : decode prog_14_method_105_code 9 = .ok (.invokestatic 76, 3) := by decide +kernel
theorem d_R_countIn_12 : decode prog_14_method_105_code 12 = .ok (.iconst 1, 1) := by decide +kernel
theorem d_R_countIn_13 : decode prog_14_method_105_code 13 = .ok (.invokevirtual 128, 3) := by decide +kernel
theorem d_R_countIn_16 : decode prog_14_method_105_code 16 = .ok (.ifCond .eq 11, 3) := by decide +kernel
theorem d_R_countIn_19 : decode prog_14_method_105_code 19 = .ok (.aload_n 0, 1) := by decide +kernel
theorem d_R_countIn_20 : decode prog_14_method_105_code 20 = .ok (.iload_n 1, 1) := by decide +kernel
theorem d_R_countIn_21 : decode prog_14_method_105_code 21 = .ok (.invokevirtual 358, 3) := by decide +kernel
theorem d_R_countIn_24 : decode prog_14_method_105_code 24 = .ok (.goto 4, 3) := by decide +kernel
theorem d_R_countIn_27 : decode prog_14_method_105_code 27 = .ok (.iconst 0, 1) := by decide +kernel
theorem d_R_countIn_28 : decode prog_14_method_105_code 28 = .ok (.ireturn, 1) := by decide +kernel
theorem d_R_customerCount_0 : decode prog_14_method_76_code 0 = .ok (.aload_n 0, 1) := by decide +kernel
theorem d_R_customerCount_1 : decode prog_14_method_76_code 1 = .ok (.bipush 8, 2) := by decide +kernel
theorem d_R_customerCount_3 : decode prog_14_method_76_code 3 = .ok (.invokevirtual 324, 3) := by decide +kernel
theorem d_R_customerCount_6 : decode prog_14_method_76_code 6 = .ok (.ireturn, 1) := by decide +kernel
theorem d_R_named_0 : decode prog_14_method_44_code 0 = .ok (.iconst 0, 1) := by decide +kernel
theorem d_R_named_1 : decode prog_14_method_44_code 1 = .ok (.istore 5, 2) := by decide +kernel
theorem d_R_named_3 : decode prog_14_method_44_code 3 = .ok (.iload 5, 2) := by decide +kernel
theorem d_R_named_5 : decode prog_14_method_44_code 5 = .ok (.iload 4, 2) := by decide +kernel
theorem d_R_named_7 : decode prog_14_method_44_code 7 = .ok (.if_icmp .ge 29, 3) := by decide +kernel
theorem d_R_named_10 : decode prog_14_method_44_code 10 = .ok (.aload_n 0, 1) := by decide +kernel
theorem d_R_named_11 : decode prog_14_method_44_code 11 = .ok (.getfield 7, 3) := by decide +kernel
theorem d_R_named_14 : decode prog_14_method_44_code 14 = .ok (.iload_n 2, 1) := by decide +kernel
theorem d_R_named_15 : decode prog_14_method_44_code 15 = .ok (.iload_n 3, 1) := by decide +kernel
theorem d_R_named_16 : decode prog_14_method_44_code 16 = .ok (.iload 5, 2) := by decide +kernel
theorem d_R_named_18 : decode prog_14_method_44_code 18 = .ok (.imul, 1) := by decide +kernel
theorem d_R_named_19 : decode prog_14_method_44_code 19 = .ok (.iadd, 1) := by decide +kernel
theorem d_R_named_20 : decode prog_14_method_44_code 20 = .ok (.iconst 0, 1) := by decide +kernel
theorem d_R_named_21 : decode prog_14_method_44_code 21 = .ok (.iadd, 1) := by decide +kernel
theorem d_R_named_22 : decode prog_14_method_44_code 22 = .ok (.iaload, 1) := by decide +kernel
theorem d_R_named_23 : decode prog_14_method_44_code 23 = .ok (.iload_n 1, 1) := by decide +kernel
theorem d_R_named_24 : decode prog_14_method_44_code 24 = .ok (.if_icmp .ne 6, 3) := by decide +kernel
theorem d_R_named_27 : decode prog_14_method_44_code 27 = .ok (.iload 5, 2) := by decide +kernel
theorem d_R_named_29 : decode prog_14_method_44_code 29 = .ok (.ireturn, 1) := by decide +kernel
theorem d_R_named_30 : decode prog_14_method_44_code 30 = .ok (.iinc 5 1, 3) := by decide +kernel
theorem d_R_named_33 : decode prog_14_method_44_code 33 = .ok (.goto (-30), 3) := by decide +kernel
theorem d_R_named_36 : decode prog_14_method_44_code 36 = .ok (.iconst (-1), 1) := by decide +kernel
theorem d_R_named_37 : decode prog_14_method_44_code 37 = .ok (.ireturn, 1) := by decide +kernel
theorem d_R_customerNamed_0 : decode prog_14_method_47_code 0 = .ok (.aload_n 0, 1) := by decide +kernel
theorem d_R_customerNamed_1 : decode prog_14_method_47_code 1 = .ok (.iload_n 1, 1) := by decide +kernel
theorem d_R_customerNamed_2 : decode prog_14_method_47_code 2 = .ok (.bipush 28, 2) := by decide +kernel
theorem d_R_customerNamed_4 : decode prog_14_method_47_code 4 = .ok (.iconst 3, 1) := by decide +kernel
theorem d_R_customerNamed_5 : decode prog_14_method_47_code 5 = .ok (.aload_n 0, 1) := by decide +kernel
theorem d_R_customerNamed_6 : decode prog_14_method_47_code 6 = .ok (.getfield 7, 3) := by decide +kernel
theorem d_R_customerNamed_9 : decode prog_14_method_47_code 9 = .ok (.bipush 8, 2) := by decide +kernel
theorem d_R_customerNamed_11 : decode prog_14_method_47_code 11 = .ok (.iaload, 1) := by decide +kernel
theorem d_R_customerNamed_12 : decode prog_14_method_47_code 12 = .ok (.invokevirtual 178, 3) := by decide +kernel
theorem d_R_customerNamed_15 : decode prog_14_method_47_code 15 = .ok (.ireturn, 1) := by decide +kernel
theorem d_R_customerOf_0 : decode prog_14_method_86_code 0 = .ok (.aload_n 0, 1) := by decide +kernel
theorem d_R_customerOf_1 : decode prog_14_method_86_code 1 = .ok (.iload_n 1, 1) := by decide +kernel
theorem d_R_customerOf_2 : decode prog_14_method_86_code 2 = .ok (.iconst 0, 1) := by decide +kernel
theorem d_R_customerOf_3 : decode prog_14_method_86_code 3 = .ok (.invokevirtual 349, 3) := by decide +kernel
theorem d_R_customerOf_6 : decode prog_14_method_86_code 6 = .ok (.ireturn, 1) := by decide +kernel
theorem d_R_day_0 : decode prog_14_method_72_code 0 = .ok (.aload_n 0, 1) := by decide +kernel
theorem d_R_day_1 : decode prog_14_method_72_code 1 = .ok (.iconst 5, 1) := by decide +kernel
theorem d_R_day_2 : decode prog_14_method_72_code 2 = .ok (.invokevirtual 324, 3) := by decide +kernel
theorem d_R_day_5 : decode prog_14_method_72_code 5 = .ok (.ireturn, 1) := by decide +kernel
theorem d_R_daysUntilDecided_0 : decode prog_14_method_111_code 0 = .ok (.aload_n 0, 1) := by decide +kernel
theorem d_R_daysUntilDecided_1 : decode prog_14_method_111_code 1 = .ok (.iload_n 1, 1) := by decide +kernel
theorem d_R_daysUntilDecided_2 : decode prog_14_method_111_code 2 = .ok (.bipush 7, 2) := by decide +kernel
theorem d_R_daysUntilDecided_4 : decode prog_14_method_111_code 4 = .ok (.invokevirtual 349, 3) := by decide +kernel
theorem d_R_daysUntilDecided_7 : decode prog_14_method_111_code 7 = .ok (.istore_n 2, 1) := by decide +kernel
theorem d_R_daysUntilDecided_8 : decode prog_14_method_111_code 8 = .ok (.aload_n 0, 1) := by decide +kernel
theorem d_R_daysUntilDecided_9 : decode prog_14_method_111_code 9 = .ok (.getfield 73, 3) := by decide +kernel
theorem d_R_daysUntilDecided_12 : decode prog_14_method_111_code 12 = .ok (.ifCond .ne 7, 3) := by decide +kernel
theorem d_R_daysUntilDecided_15 : decode prog_14_method_111_code 15 = .ok (.iload_n 2, 1) := by decide +kernel
theorem d_R_daysUntilDecided_16 : decode prog_14_method_111_code 16 = .ok (.ifCond .eq 7, 3) := by decide +kernel
theorem d_R_daysUntilDecided_19 : decode prog_14_method_111_code 19 = .ok (.iconst 0, 1) := by decide +kernel
theorem d_R_daysUntilDecided_20 : decode prog_14_method_111_code 20 = .ok (.goto 18, 3) := by decide +kernel
theorem d_R_daysUntilDecided_23 : decode prog_14_method_111_code 23 = .ok (.aload_n 0, 1) := by decide +kernel
theorem d_R_daysUntilDecided_24 : decode prog_14_method_111_code 24 = .ok (.iload_n 1, 1) := by decide +kernel
theorem d_R_daysUntilDecided_25 : decode prog_14_method_111_code 25 = .ok (.iconst 5, 1) := by decide +kernel
theorem d_R_daysUntilDecided_26 : decode prog_14_method_111_code 26 = .ok (.invokevirtual 84, 3) := by decide +kernel
theorem d_R_daysUntilDecided_29 : decode prog_14_method_111_code 29 = .ok (.iconst 1, 1) := by decide +kernel
theorem d_R_daysUntilDecided_30 : decode prog_14_method_111_code 30 = .ok (.iadd, 1) := by decide +kernel
theorem d_R_daysUntilDecided_31 : decode prog_14_method_111_code 31 = .ok (.aload_n 0, 1) := by decide +kernel
theorem d_R_daysUntilDecided_32 : decode prog_14_method_111_code 32 = .ok (.getfield 7, 3) := by decide +kernel
theorem d_R_daysUntilDecided_35 : decode prog_14_method_111_code 35 = .ok (.iconst 5, 1) := by decide +kernel
theorem d_R_daysUntilDecided_36 : decode prog_14_method_111_code 36 = .ok (.iaload, 1) := by decide +kernel
theorem d_R_daysUntilDecided_37 : decode prog_14_method_111_code 37 = .ok (.isub, 1) := by decide +kernel
theorem d_R_daysUntilDecided_38 : decode prog_14_method_111_code 38 = .ok (.ireturn, 1) := by decide +kernel
theorem d_R_daysUntilRefunded_0 : decode prog_14_method_112_code 0 = .ok (.aload_n 0, 1) := by decide +kernel
theorem d_R_daysUntilRefunded_1 : decode prog_14_method_112_code 1 = .ok (.iconst 0, 1) := by decide +kernel
theorem d_R_daysUntilRefunded_2 : decode prog_14_method_112_code 2 = .ok (.putfield 73, 3) := by decide +kernel
theorem d_R_daysUntilRefunded_5 : decode prog_14_method_112_code 5 = .ok (.aload_n 0, 1) := by decide +kernel
theorem d_R_daysUntilRefunded_6 : decode prog_14_method_112_code 6 = .ok (.aload_n 0, 1) := by decide +kernel
theorem d_R_daysUntilRefunded_7 : decode prog_14_method_112_code 7 = .ok (.iload_n 1, 1) := by decide +kernel
theorem d_R_daysUntilRefunded_8 : decode prog_14_method_112_code 8 = .ok (.invokevirtual 346, 3) := by decide +kernel
theorem d_R_daysUntilRefunded_11 : decode prog_14_method_112_code 11 = .ok (.iconst 1, 1) := by decide +kernel
theorem d_R_daysUntilRefunded_12 : decode prog_14_method_112_code 12 = .ok (.invokevirtual 128, 3) := by decide +kernel
theorem d_R_daysUntilRefunded_15 : decode prog_14_method_112_code 15 = .ok (.ifCond .ne 5, 3) := by decide +kernel
theorem d_R_daysUntilRefunded_18 : decode prog_14_method_112_code 18 = .ok (.iconst 0, 1) := by decide +kernel
theorem d_R_daysUntilRefunded_19 : decode prog_14_method_112_code 19 = .ok (.ireturn, 1) := by decide +kernel
theorem d_R_daysUntilRefunded_20 : decode prog_14_method_112_code 20 = .ok (.aload_n 0, 1) := by decide +kernel
theorem d_R_daysUntilRefunded_21 : decode prog_14_method_112_code 21 = .ok (.invokevirtual 364, 3) := by decide +kernel
theorem d_R_daysUntilRefunded_24 : decode prog_14_method_112_code 24 = .ok (.iconst 0, 1) := by decide +kernel
theorem d_R_daysUntilRefunded_25 : decode prog_14_method_112_code 25 = .ok (.istore_n 2, 1) := by decide +kernel
theorem d_R_daysUntilRefunded_26 : decode prog_14_method_112_code 26 = .ok (.iload_n 2, 1) := by decide +kernel
theorem d_R_daysUntilRefunded_27 : decode prog_14_method_112_code 27 = .ok (.sipush 300, 3) := by decide +kernel
theorem d_R_daysUntilRefunded_30 : decode prog_14_method_112_code 30 = .ok (.if_icmp .gt 30, 3) := by decide +kernel
theorem d_R_daysUntilRefunded_33 : decode prog_14_method_112_code 33 = .ok (.aload_n 0, 1) := by decide +kernel
theorem d_R_daysUntilRefunded_34 : decode prog_14_method_112_code 34 = .ok (.iload_n 1, 1) := by decide +kernel
theorem d_R_daysUntilRefunded_35 : decode prog_14_method_112_code 35 = .ok (.bipush 7, 2) := by decide +kernel
theorem d_R_daysUntilRefunded_37 : decode prog_14_method_112_code 37 = .ok (.invokevirtual 84, 3) := by decide +kernel
theorem d_R_daysUntilRefunded_40 : decode prog_14_method_112_code 40 = .ok (.iconst 3, 1) := by decide +kernel
theorem d_R_daysUntilRefunded_41 : decode prog_14_method_112_code 41 = .ok (.if_icmp .ne 9, 3) := by decide +kernel
theorem d_R_daysUntilRefunded_44 : decode prog_14_method_112_code 44 = .ok (.aload_n 0, 1) := by decide +kernel
theorem d_R_daysUntilRefunded_45 : decode prog_14_method_112_code 45 = .ok (.iload_n 2, 1) := by decide +kernel
theorem d_R_daysUntilRefunded_46 : decode prog_14_method_112_code 46 = .ok (.invokevirtual 367, 3) := by decide +kernel
theorem d_R_daysUntilRefunded_49 : decode prog_14_method_112_code 49 = .ok (.ireturn, 1) := by decide +kernel
theorem d_R_daysUntilRefunded_50 : decode prog_14_method_112_code 50 = .ok (.aload_n 0, 1) := by decide +kernel
theorem d_R_daysUntilRefunded_51 : decode prog_14_method_112_code 51 = .ok (.invokevirtual 370, 3) := by decide +kernel
theorem d_R_daysUntilRefunded_54 : decode prog_14_method_112_code 54 = .ok (.iinc 2 1, 3) := by decide +kernel
theorem d_R_daysUntilRefunded_57 : decode prog_14_method_112_code 57 = .ok (.goto (-31), 3) := by decide +kernel
theorem d_R_daysUntilRefunded_60 : decode prog_14_method_112_code 60 = .ok (.aload_n 0, 1) := by decide +kernel
theorem d_R_daysUntilRefunded_61 : decode prog_14_method_112_code 61 = .ok (.iconst (-1), 1) := by decide +kernel
theorem d_R_daysUntilRefunded_62 : decode prog_14_method_112_code 62 = .ok (.invokevirtual 367, 3) := by decide +kernel
theorem d_R_daysUntilRefunded_65 : decode prog_14_method_112_code 65 = .ok (.ireturn, 1) := by decide +kernel
theorem d_R_decidedOn_0 : decode prog_14_method_93_code 0 = .ok (.aload_n 0, 1) := by decide +kernel
theorem d_R_decidedOn_1 : decode prog_14_method_93_code 1 = .ok (.iload_n 1, 1) := by decide +kernel
theorem d_R_decidedOn_2 : decode prog_14_method_93_code 2 = .ok (.bipush 7, 2) := by decide +kernel
theorem d_R_decidedOn_4 : decode prog_14_method_93_code 4 = .ok (.invokevirtual 349, 3) := by decide +kernel
theorem d_R_decidedOn_7 : decode prog_14_method_93_code 7 = .ok (.istore_n 2, 1) := by decide +kernel
theorem d_R_decidedOn_8 : decode prog_14_method_93_code 8 = .ok (.aload_n 0, 1) := by decide +kernel
theorem d_R_decidedOn_9 : decode prog_14_method_93_code 9 = .ok (.iload_n 2, 1) := by decide +kernel
theorem d_R_decidedOn_10 : decode prog_14_method_93_code 10 = .ok (.ifCond .eq 7, 3) := by decide +kernel
theorem d_R_decidedOn_13 : decode prog_14_method_93_code 13 = .ok (.iconst 1, 1) := by decide +kernel
theorem d_R_decidedOn_14 : decode prog_14_method_93_code 14 = .ok (.goto 4, 3) := by decide +kernel
theorem d_R_decidedOn_17 : decode prog_14_method_93_code 17 = .ok (.iconst 0, 1) := by decide +kernel
theorem d_R_decidedOn_18 : decode prog_14_method_93_code 18 = .ok (.iconst 2, 1) := by decide +kernel
theorem d_R_decidedOn_19 : decode prog_14_method_93_code 19 = .ok (.invokevirtual 128, 3) := by decide +kernel
theorem d_R_decidedOn_22 : decode prog_14_method_93_code 22 = .ok (.ifCond .eq 13, 3) := by decide +kernel
theorem d_R_decidedOn_25 : decode prog_14_method_93_code 25 = .ok (.aload_n 0, 1) := by decide +kernel
theorem d_R_decidedOn_26 : decode prog_14_method_93_code 26 = .ok (.iload_n 1, 1) := by decide +kernel
theorem d_R_decidedOn_27 : decode prog_14_method_93_code 27 = .ok (.bipush 8, 2) := by decide +kernel
theorem d_R_decidedOn_29 : decode prog_14_method_93_code 29 = .ok (.invokevirtual 84, 3) := by decide +kernel
theorem d_R_decidedOn_32 : decode prog_14_method_93_code 32 = .ok (.goto 4, 3) := by decide +kernel
theorem d_R_decidedOn_35 : decode prog_14_method_93_code 35 = .ok (.iconst 0, 1) := by decide +kernel
theorem d_R_decidedOn_36 : decode prog_14_method_93_code 36 = .ok (.ireturn, 1) := by decide +kernel
theorem d_R_laid_0 : decode prog_14_method_60_code 0 = .ok (.aload_n 0, 1) := by decide +kernel
theorem d_R_laid_1 : decode prog_14_method_60_code 1 = .ok (.getfield 39, 3) := by decide +kernel
theorem d_R_laid_4 : decode prog_14_method_60_code 4 = .ok (.bipush 7, 2) := by decide +kernel
theorem d_R_laid_6 : decode prog_14_method_60_code 6 = .ok (.iload_n 1, 1) := by decide +kernel
theorem d_R_laid_7 : decode prog_14_method_60_code 7 = .ok (.imul, 1) := by decide +kernel
theorem d_R_laid_8 : decode prog_14_method_60_code 8 = .ok (.iload_n 2, 1) := by decide +kernel
theorem d_R_laid_9 : decode prog_14_method_60_code 9 = .ok (.iadd, 1) := by decide +kernel
theorem d_R_laid_10 : decode prog_14_method_60_code 10 = .ok (.iaload, 1) := by decide +kernel
