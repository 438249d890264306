theorem d_SetupReader_readInto_50 : decode prog_9_method_2_code 50 = .ok (.aload_n 0, 1) := by decide +kernel
theorem d_SetupReader_readInto_51 : decode prog_9_method_2_code 51 = .ok (.iconst 1, 1) := by decide +kernel
theorem d_SetupReader_readInto_52 : decode prog_9_method_2_code 52 = .ok (.invokevirtual 49, 3) := by decide +kernel
theorem d_SetupReader_readInto_55 : decode prog_9_method_2_code 55 = .ok (.aload_n 0, 1) := by decide +kernel
theorem d_SetupReader_readInto_56 : decode prog_9_method_2_code 56 = .ok (.getfield 53, 3) := by decide +kernel
theorem d_SetupReader_readInto_59 : decode prog_9_method_2_code 59 = .ok (.ireturn, 1) := by decide +kernel
theorem d_Owl_rest_0 : decode prog_4_method_3_code 0 = .ok (.aload_n 0, 1) := by decide +kernel
theorem d_Owl_rest_1 : decode prog_4_method_3_code 1 = .ok (.iconst 0, 1) := by decide +kernel
theorem d_Owl_rest_2 : decode prog_4_method_3_code 2 = .ok (.putfield 9, 3) := by decide +kernel
theorem d_Owl_rest_5 : decode prog_4_method_3_code 5 = .ok (.aload_n 0, 1) := by decide +kernel
theorem d_Owl_rest_6 : decode prog_4_method_3_code 6 = .ok (.iconst 0, 1) := by decide +kernel
theorem d_Owl_rest_7 : decode prog_4_method_3_code 7 = .ok (.putfield 15, 3) := by decide +kernel
theorem d_Owl_rest_10 : decode prog_4_method_3_code 10 = .ok (.aload_n 0, 1) := by decide +kernel
theorem d_Owl_rest_11 : decode prog_4_method_3_code 11 = .ok (.iconst 0, 1) := by decide +kernel
theorem d_Owl_rest_12 : decode prog_4_method_3_code 12 = .ok (.putfield 24, 3) := by decide +kernel
theorem d_Owl_rest_15 : decode prog_4_method_3_code 15 = .ok (.return_, 1) := by decide +kernel
theorem d_Shop_openWith_0 : decode prog_10_method_2_code 0 = .ok (.aload_n 0, 1) := by decide +kernel
theorem d_Shop_openWith_1 : decode prog_10_method_2_code 1 = .ok (.aload_n 1, 1) := by decide +kernel
theorem d_Shop_openWith_2 : decode prog_10_method_2_code 2 = .ok (.putfield 61, 3) := by decide +kernel
theorem d_Shop_openWith_5 : decode prog_10_method_2_code 5 = .ok (.aload_n 0, 1) := by decide +kernel
theorem d_Shop_openWith_6 : decode prog_10_method_2_code 6 = .ok (.iconst 0, 1) := by decide +kernel
theorem d_Shop_openWith_7 : decode prog_10_method_2_code 7 = .ok (.putfield 9, 3) := by decide +kernel
theorem d_Shop_openWith_10 : decode prog_10_method_2_code 10 = .ok (.aload_n 0, 1) := by decide +kernel
theorem d_Shop_openWith_11 : decode prog_10_method_2_code 11 = .ok (.aload_n 1, 1) := by decide +kernel
theorem d_Shop_openWith_12 : decode prog_10_method_2_code 12 = .ok (.getfield 67, 3) := by decide +kernel
theorem d_Shop_openWith_15 : decode prog_10_method_2_code 15 = .ok (.putfield 15, 3) := by decide +kernel
theorem d_Shop_openWith_18 : decode prog_10_method_2_code 18 = .ok (.iconst 0, 1) := by decide +kernel
theorem d_Shop_openWith_19 : decode prog_10_method_2_code 19 = .ok (.istore_n 2, 1) := by decide +kernel
theorem d_Shop_openWith_20 : decode prog_10_method_2_code 20 = .ok (.iload_n 2, 1) := by decide +kernel
theorem d_Shop_openWith_21 : decode prog_10_method_2_code 21 = .ok (.bipush 8, 2) := by decide +kernel
theorem d_Shop_openWith_23 : decode prog_10_method_2_code 23 = .ok (.if_icmp .ge 20, 3) := by decide +kernel
theorem d_Shop_openWith_26 : decode prog_10_method_2_code 26 = .ok (.aload_n 0, 1) := by decide +kernel
theorem d_Shop_openWith_27 : decode prog_10_method_2_code 27 = .ok (.getfield 18, 3) := by decide +kernel
theorem d_Shop_openWith_30 : decode prog_10_method_2_code 30 = .ok (.iload_n 2, 1) := by decide +kernel
theorem d_Shop_openWith_31 : decode prog_10_method_2_code 31 = .ok (.aload_n 1, 1) := by decide +kernel
theorem d_Shop_openWith_32 : decode prog_10_method_2_code 32 = .ok (.iload_n 2, 1) := by decide +kernel
theorem d_Shop_openWith_33 : decode prog_10_method_2_code 33 = .ok (.invokevirtual 70, 3) := by decide +kernel
theorem d_Shop_openWith_36 : decode prog_10_method_2_code 36 = .ok (.iastore, 1) := by decide +kernel
theorem d_Shop_openWith_37 : decode prog_10_method_2_code 37 = .ok (.iinc 2 1, 3) := by decide +kernel
theorem d_Shop_openWith_40 : decode prog_10_method_2_code 40 = .ok (.goto (-20), 3) := by decide +kernel
theorem d_Shop_openWith_43 : decode prog_10_method_2_code 43 = .ok (.iconst 0, 1) := by decide +kernel
theorem d_Shop_openWith_44 : decode prog_10_method_2_code 44 = .ok (.istore_n 2, 1) := by decide +kernel
theorem d_Shop_openWith_45 : decode prog_10_method_2_code 45 = .ok (.iload_n 2, 1) := by decide +kernel
theorem d_Shop_openWith_46 : decode prog_10_method_2_code 46 = .ok (.iconst 5, 1) := by decide +kernel
theorem d_Shop_openWith_47 : decode prog_10_method_2_code 47 = .ok (.if_icmp .ge 18, 3) := by decide +kernel
theorem d_Shop_openWith_50 : decode prog_10_method_2_code 50 = .ok (.aload_n 0, 1) := by decide +kernel
theorem d_Shop_openWith_51 : decode prog_10_method_2_code 51 = .ok (.getfield 33, 3) := by decide +kernel
theorem d_Shop_openWith_54 : decode prog_10_method_2_code 54 = .ok (.iload_n 2, 1) := by decide +kernel
theorem d_Shop_openWith_55 : decode prog_10_method_2_code 55 = .ok (.aaload, 1) := by decide +kernel
theorem d_Shop_openWith_56 : decode prog_10_method_2_code 56 = .ok (.invokevirtual 74, 3) := by decide +kernel
theorem d_Shop_openWith_59 : decode prog_10_method_2_code 59 = .ok (.iinc 2 1, 3) := by decide +kernel
theorem d_Shop_openWith_62 : decode prog_10_method_2_code 62 = .ok (.goto (-17), 3) := by decide +kernel
theorem d_Shop_openWith_65 : decode prog_10_method_2_code 65 = .ok (.aload_n 0, 1) := by decide +kernel
theorem d_Shop_openWith_66 : decode prog_10_method_2_code 66 = .ok (.iconst 0, 1) := by decide +kernel
theorem d_Shop_openWith_67 : decode prog_10_method_2_code 67 = .ok (.putfield 28, 3) := by decide +kernel
theorem d_Shop_openWith_70 : decode prog_10_method_2_code 70 = .ok (.aload_n 0, 1) := by decide +kernel
theorem d_Shop_openWith_71 : decode prog_10_method_2_code 71 = .ok (.iconst 0, 1) := by decide +kernel
theorem d_Shop_openWith_72 : decode prog_10_method_2_code 72 = .ok (.putfield 40, 3) := by decide +kernel
theorem d_Shop_openWith_75 : decode prog_10_method_2_code 75 = .ok (.aload_n 0, 1) := by decide +kernel
theorem d_Shop_openWith_76 : decode prog_10_method_2_code 76 = .ok (.iconst 0, 1) := by decide +kernel
theorem d_Shop_openWith_77 : decode prog_10_method_2_code 77 = .ok (.putfield 52, 3) := by decide +kernel
theorem d_Shop_openWith_80 : decode prog_10_method_2_code 80 = .ok (.aload_n 0, 1) := by decide +kernel
theorem d_Shop_openWith_81 : decode prog_10_method_2_code 81 = .ok (.iconst 0, 1) := by decide +kernel
theorem d_Shop_openWith_82 : decode prog_10_method_2_code 82 = .ok (.putfield 55, 3) := by decide +kernel
theorem d_Shop_openWith_85 : decode prog_10_method_2_code 85 = .ok (.aload_n 0, 1) := by decide +kernel
theorem d_Shop_openWith_86 : decode prog_10_method_2_code 86 = .ok (.iconst 0, 1) := by decide +kernel
theorem d_Shop_openWith_87 : decode prog_10_method_2_code 87 = .ok (.putfield 58, 3) := by decide +kernel
theorem d_Shop_openWith_90 : decode prog_10_method_2_code 90 = .ok (.return_, 1) := by decide +kernel
theorem d_P_openShop_0 : decode prog_1_method_57_code 0 = .ok (.aload_n 0, 1) := by decide +kernel
theorem d_P_openShop_1 : decode prog_1_method_57_code 1 = .ok (.getfield 21, 3) := by decide +kernel
theorem d_P_openShop_4 : decode prog_1_method_57_code 4 = .ok (.aload_n 0, 1) := by decide +kernel
theorem d_P_openShop_5 : decode prog_1_method_57_code 5 = .ok (.getfield 39, 3) := by decide +kernel
theorem d_P_openShop_8 : decode prog_1_method_57_code 8 = .ok (.invokevirtual 356, 3) := by decide +kernel
theorem d_P_openShop_11 : decode prog_1_method_57_code 11 = .ok (.istore_n 1, 1) := by decide +kernel
theorem d_P_openShop_12 : decode prog_1_method_57_code 12 = .ok (.aload_n 0, 1) := by decide +kernel
theorem d_P_openShop_13 : decode prog_1_method_57_code 13 = .ok (.getfield 10, 3) := by decide +kernel
theorem d_P_openShop_16 : decode prog_1_method_57_code 16 = .ok (.iconst 0, 1) := by decide +kernel
theorem d_P_openShop_17 : decode prog_1_method_57_code 17 = .ok (.invokevirtual 127, 3) := by decide +kernel
theorem d_P_openShop_20 : decode prog_1_method_57_code 20 = .ok (.iload_n 1, 1) := by decide +kernel
theorem d_P_openShop_21 : decode prog_1_method_57_code 21 = .ok (.ifCond .ne 60, 3) := by decide +kernel
theorem d_P_openShop_24 : decode prog_1_method_57_code 24 = .ok (.aload_n 0, 1) := by decide +kernel
theorem d_P_openShop_25 : decode prog_1_method_57_code 25 = .ok (.getfield 35, 3) := by decide +kernel
theorem d_P_openShop_28 : decode prog_1_method_57_code 28 = .ok (.astore_n 2, 1) := by decide +kernel
theorem d_P_openShop_29 : decode prog_1_method_57_code 29 = .ok (.aload_n 0, 1) := by decide +kernel
theorem d_P_openShop_30 : decode prog_1_method_57_code 30 = .ok (.aload_n 0, 1) := by decide +kernel
theorem d_P_openShop_31 : decode prog_1_method_57_code 31 = .ok (.getfield 39, 3) := by decide +kernel
theorem d_P_openShop_34 : decode prog_1_method_57_code 34 = .ok (.putfield 35, 3) := by decide +kernel
theorem d_P_openShop_37 : decode prog_1_method_57_code 37 = .ok (.aload_n 0, 1) := by decide +kernel
theorem d_P_openShop_38 : decode prog_1_method_57_code 38 = .ok (.aload_n 2, 1) := by decide +kernel
theorem d_P_openShop_39 : decode prog_1_method_57_code 39 = .ok (.putfield 39, 3) := by decide +kernel
theorem d_P_openShop_42 : decode prog_1_method_57_code 42 = .ok (.aload_n 0, 1) := by decide +kernel
theorem d_P_openShop_43 : decode prog_1_method_57_code 43 = .ok (.getfield 47, 3) := by decide +kernel
theorem d_P_openShop_46 : decode prog_1_method_57_code 46 = .ok (.aload_n 0, 1) := by decide +kernel
theorem d_P_openShop_47 : decode prog_1_method_57_code 47 = .ok (.getfield 35, 3) := by decide +kernel
theorem d_P_openShop_50 : decode prog_1_method_57_code 50 = .ok (.invokevirtual 359, 3) := by decide +kernel
theorem d_P_openShop_53 : decode prog_1_method_57_code 53 = .ok (.aload_n 0, 1) := by decide +kernel
theorem d_P_openShop_54 : decode prog_1_method_57_code 54 = .ok (.getfield 57, 3) := by decide +kernel
theorem d_P_openShop_57 : decode prog_1_method_57_code 57 = .ok (.iconst 0, 1) := by decide +kernel
theorem d_P_openShop_58 : decode prog_1_method_57_code 58 = .ok (.putfield 348, 3) := by decide +kernel
theorem d_P_openShop_61 : decode prog_1_method_57_code 61 = .ok (.iconst 0, 1) := by decide +kernel
theorem d_P_openShop_62 : decode prog_1_method_57_code 62 = .ok (.istore_n 3, 1) := by decide +kernel
theorem d_P_openShop_63 : decode prog_1_method_57_code 63 = .ok (.iload_n 3, 1) := by decide +kernel
theorem d_P_openShop_64 : decode prog_1_method_57_code 64 = .ok (.iconst 2, 1) := by decide +kernel
theorem d_P_openShop_65 : decode prog_1_method_57_code 65 = .ok (.if_icmp .ge 16, 3) := by decide +kernel
theorem d_P_openShop_68 : decode prog_1_method_57_code 68 = .ok (.aload_n 0, 1) := by decide +kernel
theorem d_P_openShop_69 : decode prog_1_method_57_code 69 = .ok (.getfield 65, 3) := by decide +kernel
theorem d_P_openShop_72 : decode prog_1_method_57_code 72 = .ok (.iload_n 3, 1) := by decide +kernel
theorem d_P_openShop_73 : decode prog_1_method_57_code 73 = .ok (.iconst 0, 1) := by decide +kernel
theorem d_P_openShop_74 : decode prog_1_method_57_code 74 = .ok (.bastore, 1) := by decide +kernel
theorem d_P_openShop_75 : decode prog_1_method_57_code 75 = .ok (.iinc 3 1, 3) := by decide +kernel
theorem d_P_openShop_78 : decode prog_1_method_57_code 78 = .ok (.goto (-15), 3) := by decide +kernel
theorem d_P_openShop_81 : decode prog_1_method_57_code 81 = .ok (.iload_n 1, 1) := by decide +kernel
theorem d_P_openShop_82 : decode prog_1_method_57_code 82 = .ok (.ireturn, 1) := by decide +kernel
theorem d_P_load_0 : decode prog_1_method_4_code 0 = .ok (.aload_n 0, 1) := by decide +kernel
theorem d_P_load_1 : decode prog_1_method_4_code 1 = .ok (.invokevirtual 98, 3) := by decide +kernel
theorem d_P_load_4 : decode prog_1_method_4_code 4 = .ok (.istore_n 1, 1) := by decide +kernel
theorem d_P_load_5 : decode prog_1_method_4_code 5 = .ok (.aload_n 0, 1) := by decide +kernel
theorem d_P_load_6 : decode prog_1_method_4_code 6 = .ok (.iload_n 1, 1) := by decide +kernel
theorem d_P_load_7 : decode prog_1_method_4_code 7 = .ok (.putfield 69, 3) := by decide +kernel
theorem d_P_load_10 : decode prog_1_method_4_code 10 = .ok (.aload_n 0, 1) := by decide +kernel
theorem d_P_load_11 : decode prog_1_method_4_code 11 = .ok (.aload_n 0, 1) := by decide +kernel
theorem d_P_load_12 : decode prog_1_method_4_code 12 = .ok (.getfield 21, 3) := by decide +kernel
theorem d_P_load_15 : decode prog_1_method_4_code 15 = .ok (.getfield 130, 3) := by decide +kernel
theorem d_P_load_18 : decode prog_1_method_4_code 18 = .ok (.putfield 73, 3) := by decide +kernel
theorem d_P_load_21 : decode prog_1_method_4_code 21 = .ok (.iload_n 1, 1) := by decide +kernel
theorem d_P_load_22 : decode prog_1_method_4_code 22 = .ok (.ireturn, 1) := by decide +kernel
theorem d_Shop_sumOfPrices_0 : decode prog_10_method_32_code 0 = .ok (.iconst 0, 1) := by decide +kernel
theorem d_Shop_sumOfPrices_1 : decode prog_10_method_32_code 1 = .ok (.istore_n 1, 1) := by decide +kernel
theorem d_Shop_sumOfPrices_2 : decode prog_10_method_32_code 2 = .ok (.iconst 0, 1) := by decide +kernel
theorem d_Shop_sumOfPrices_3 : decode prog_10_method_32_code 3 = .ok (.istore_n 2, 1) := by decide +kernel
theorem d_Shop_sumOfPrices_4 : decode prog_10_method_32_code 4 = .ok (.iload_n 2, 1) := by decide +kernel
theorem d_Shop_sumOfPrices_5 : decode prog_10_method_32_code 5 = .ok (.aload_n 0, 1) := by decide +kernel
theorem d_Shop_sumOfPrices_6 : decode prog_10_method_32_code 6 = .ok (.getfield 28, 3) := by decide +kernel
theorem d_Shop_sumOfPrices_9 : decode prog_10_method_32_code 9 = .ok (.if_icmp .ge 21, 3) := by decide +kernel
theorem d_Shop_sumOfPrices_12 : decode prog_10_method_32_code 12 = .ok (.iload_n 1, 1) := by decide +kernel
theorem d_Shop_sumOfPrices_13 : decode prog_10_method_32_code 13 = .ok (.aload_n 0, 1) := by decide +kernel
theorem d_Shop_sumOfPrices_14 : decode prog_10_method_32_code 14 = .ok (.getfield 24, 3) := by decide +kernel
theorem d_Shop_sumOfPrices_17 : decode prog_10_method_32_code 17 = .ok (.iload_n 2, 1) := by decide +kernel
theorem d_Shop_sumOfPrices_18 : decode prog_10_method_32_code 18 = .ok (.aaload, 1) := by decide +kernel
theorem d_Shop_sumOfPrices_19 : decode prog_10_method_32_code 19 = .ok (.getfield 134, 3) := by decide +kernel
theorem d_Shop_sumOfPrices_22 : decode prog_10_method_32_code 22 = .ok (.iadd, 1) := by decide +kernel
theorem d_Shop_sumOfPrices_23 : decode prog_10_method_32_code 23 = .ok (.istore_n 1, 1) := by decide +kernel
theorem d_Shop_sumOfPrices_24 : decode prog_10_method_32_code 24 = .ok (.iinc 2 1, 3) := by decide +kernel
theorem d_Shop_sumOfPrices_27 : decode prog_10_method_32_code 27 = .ok (.goto (-23), 3) := by decide +kernel
theorem d_Shop_sumOfPrices_30 : decode prog_10_method_32_code 30 = .ok (.iload_n 1, 1) := by decide +kernel
theorem d_Shop_sumOfPrices_31 : decode prog_10_method_32_code 31 = .ok (.ireturn, 1) := by decide +kernel
theorem d_P_meanPrice_0 : decode prog_1_method_39_code 0 = .ok (.aload_n 0, 1) := by decide +kernel
theorem d_P_meanPrice_1 : decode prog_1_method_39_code 1 = .ok (.getfield 47, 3) := by decide +kernel
theorem d_P_meanPrice_4 : decode prog_1_method_39_code 4 = .ok (.getfield 195, 3) := by decide +kernel
theorem d_P_meanPrice_7 : decode prog_1_method_39_code 7 = .ok (.istore_n 1, 1) := by decide +kernel
theorem d_P_meanPrice_8 : decode prog_1_method_39_code 8 = .ok (.iload_n 1, 1) := by decide +kernel
theorem d_P_meanPrice_9 : decode prog_1_method_39_code 9 = .ok (.ifCond .ne 7, 3) := by decide +kernel
theorem d_P_meanPrice_12 : decode prog_1_method_39_code 12 = .ok (.dconst 0, 1) := by decide +kernel
theorem d_P_meanPrice_13 : decode prog_1_method_39_code 13 = .ok (.goto 14, 3) := by decide +kernel
theorem d_P_meanPrice_16 : decode prog_1_method_39_code 16 = .ok (.aload_n 0, 1) := by decide +kernel
theorem d_P_meanPrice_17 : decode prog_1_method_39_code 17 = .ok (.getfield 47, 3) := by decide +kernel
theorem d_P_meanPrice_20 : decode prog_1_method_39_code 20 = .ok (.invokevirtual 278, 3) := by decide +kernel
theorem d_P_meanPrice_23 : decode prog_1_method_39_code 23 = .ok (.i2d, 1) := by decide +kernel
theorem d_P_meanPrice_24 : decode prog_1_method_39_code 24 = .ok (.iload_n 1, 1) := by decide +kernel
theorem d_P_meanPrice_25 : decode prog_1_method_39_code 25 = .ok (.i2d, 1) := by decide +kernel
theorem d_P_meanPrice_26 : decode prog_1_method_39_code 26 = .ok (.ddiv, 1) := by decide +kernel
theorem d_P_meanPrice_27 : decode prog_1_method_39_code 27 = .ok (.dreturn, 1) := by decide +kernel
theorem d_P_owlCoins_0 : decode prog_1_method_34_code 0 = .ok (.iload_n 1, 1) := by decide +kernel
theorem d_P_owlCoins_1 : decode prog_1_method_34_code 1 = .ok (.ifCond .lt 18, 3) := by decide +kernel
theorem d_P_owlCoins_4 : decode prog_1_method_34_code 4 = .ok (.iload_n 1, 1) := by decide +kernel
theorem d_P_owlCoins_5 : decode prog_1_method_34_code 5 = .ok (.aload_n 0, 1) := by decide +kernel
theorem d_P_owlCoins_6 : decode prog_1_method_34_code 6 = .ok (.getfield 35, 3) := by decide +kernel
theorem d_P_owlCoins_9 : decode prog_1_method_34_code 9 = .ok (.getfield 252, 3) := by decide +kernel
theorem d_P_owlCoins_12 : decode prog_1_method_34_code 12 = .ok (.if_icmp .ge 7, 3) := by decide +kernel
theorem d_P_owlCoins_15 : decode prog_1_method_34_code 15 = .ok (.iconst 1, 1) := by decide +kernel
theorem d_P_owlCoins_16 : decode prog_1_method_34_code 16 = .ok (.goto 4, 3) := by decide +kernel
theorem d_P_owlCoins_19 : decode prog_1_method_34_code 19 = .ok (.iconst 0, 1) := by decide +kernel
theorem d_P_owlCoins_20 : decode prog_1_method_34_code 20 = .ok (.invokestatic 178, 3) := by decide +kernel
theorem d_P_owlCoins_23 : decode prog_1_method_34_code 23 = .ok (.aload_n 0, 1) := by decide +kernel
theorem d_P_owlCoins_24 : decode prog_1_method_34_code 24 = .ok (.getfield 47, 3) := by decide +kernel
theorem d_P_owlCoins_27 : decode prog_1_method_34_code 27 = .ok (.iload_n 1, 1) := by decide +kernel
theorem d_P_owlCoins_28 : decode prog_1_method_34_code 28 = .ok (.invokevirtual 255, 3) := by decide +kernel
theorem d_P_owlCoins_31 : decode prog_1_method_34_code 31 = .ok (.getfield 264, 3) := by decide +kernel
theorem d_P_owlCoins_34 : decode prog_1_method_34_code 34 = .ok (.ireturn, 1) := by decide +kernel
theorem d_P_owlDays_0 : decode prog_1_method_33_code 0 = .ok (.iload_n 1, 1) := by decide +kernel
theorem d_P_owlDays_1 : decode prog_1_method_33_code 1 = .ok (.ifCond .lt 18, 3) := by decide +kernel
theorem d_P_owlDays_4 : decode prog_1_method_33_code 4 = .ok (.iload_n 1, 1) := by decide +kernel
theorem d_P_owlDays_5 : decode prog_1_method_33_code 5 = .ok (.aload_n 0, 1) := by decide +kernel
theorem d_P_owlDays_6 : decode prog_1_method_33_code 6 = .ok (.getfield 35, 3) := by decide +kernel
theorem d_P_owlDays_9 : decode prog_1_method_33_code 9 = .ok (.getfield 252, 3) := by decide +kernel
theorem d_P_owlDays_12 : decode prog_1_method_33_code 12 = .ok (.if_icmp .ge 7, 3) := by decide +kernel
theorem d_P_owlDays_15 : decode prog_1_method_33_code 15 = .ok (.iconst 1, 1) := by decide +kernel
theorem d_P_owlDays_16 : decode prog_1_method_33_code 16 = .ok (.goto 4, 3) := by decide +kernel
theorem d_P_owlDays_19 : decode prog_1_method_33_code 19 = .ok (.iconst 0, 1) := by decide +kernel
theorem d_P_owlDays_20 : decode prog_1_method_33_code 20 = .ok (.invokestatic 178, 3) := by decide +kernel
theorem d_P_owlDays_23 : decode prog_1_method_33_code 23 = .ok (.aload_n 0, 1) := by decide +kernel
theorem d_P_owlDays_24 : decode prog_1_method_33_code 24 = .ok (.getfield 47, 3) := by decide +kernel
theorem d_P_owlDays_27 : decode prog_1_method_33_code 27 = .ok (.iload_n 1, 1) := by decide +kernel
theorem d_P_owlDays_28 : decode prog_1_method_33_code 28 = .ok (.invokevirtual 255, 3) := by decide +kernel
theorem d_P_owlDays_31 : decode prog_1_method_33_code 31 = .ok (.getfield 259, 3) := by decide +kernel
theorem d_P_owlDays_34 : decode prog_1_method_33_code 34 = .ok (.ireturn, 1) := by decide +kernel
theorem d_P_placeCount_0 : decode prog_1_method_11_code 0 = .ok (.aload_n 0, 1) := by decide +kernel
theorem d_P_placeCount_1 : decode prog_1_method_11_code 1 = .ok (.getfield 35, 3) := by decide +kernel
theorem d_P_placeCount_4 : decode prog_1_method_11_code 4 = .ok (.getfield 161, 3) := by decide +kernel
theorem d_P_placeCount_7 : decode prog_1_method_11_code 7 = .ok (.getfield 156, 3) := by decide +kernel
theorem d_P_placeCount_10 : decode prog_1_method_11_code 10 = .ok (.ireturn, 1) := by decide +kernel
theorem d_P_placeInQueue_0 : decode prog_1_method_29_code 0 = .ok (.aload_n 0, 1) := by decide +kernel
theorem d_P_placeInQueue_1 : decode prog_1_method_29_code 1 = .ok (.getfield 47, 3) := by decide +kernel
theorem d_P_placeInQueue_4 : decode prog_1_method_29_code 4 = .ok (.iload_n 1, 1) := by decide +kernel
theorem d_P_placeInQueue_5 : decode prog_1_method_29_code 5 = .ok (.invokevirtual 240, 3) := by decide +kernel
theorem d_P_placeInQueue_8 : decode prog_1_method_29_code 8 = .ok (.invokestatic 178, 3) := by decide +kernel
theorem d_P_placeInQueue_11 : decode prog_1_method_29_code 11 = .ok (.aload_n 0, 1) := by decide +kernel
theorem d_P_placeInQueue_12 : decode prog_1_method_29_code 12 = .ok (.getfield 47, 3) := by decide +kernel
theorem d_P_placeInQueue_15 : decode prog_1_method_29_code 15 = .ok (.iload_n 1, 1) := by decide +kernel
theorem d_P_placeInQueue_16 : decode prog_1_method_29_code 16 = .ok (.invokevirtual 243, 3) := by decide +kernel
theorem d_P_placeInQueue_19 : decode prog_1_method_29_code 19 = .ok (.ireturn, 1) := by decide +kernel
theorem d_P_placeOf_0 : decode prog_1_method_21_code 0 = .ok (.aload_n 0, 1) := by decide +kernel
theorem d_P_placeOf_1 : decode prog_1_method_21_code 1 = .ok (.iload_n 1, 1) := by decide +kernel
theorem d_P_placeOf_2 : decode prog_1_method_21_code 2 = .ok (.invokevirtual 198, 3) := by decide +kernel
theorem d_P_placeOf_5 : decode prog_1_method_21_code 5 = .ok (.getfield 210, 3) := by decide +kernel
theorem d_P_placeOf_8 : decode prog_1_method_21_code 8 = .ok (.ireturn, 1) := by decide +kernel
theorem d_P_prophecyCount_0 : decode prog_1_method_18_code 0 = .ok (.aload_n 0, 1) := by decide +kernel
theorem d_P_prophecyCount_1 : decode prog_1_method_18_code 1 = .ok (.getfield 47, 3) := by decide +kernel
theorem d_P_prophecyCount_4 : decode prog_1_method_18_code 4 = .ok (.getfield 195, 3) := by decide +kernel
theorem d_P_prophecyCount_7 : decode prog_1_method_18_code 7 = .ok (.ireturn, 1) := by decide +kernel
theorem d_Shop_coinsOf_0 : decode prog_10_method_6_code 0 = .ok (.iload_n 1, 1) := by decide +kernel
theorem d_Shop_coinsOf_1 : decode prog_10_method_6_code 1 = .ok (.ifCond .lt 18, 3) := by decide +kernel
theorem d_Shop_coinsOf_4 : decode prog_10_method_6_code 4 = .ok (.iload_n 1, 1) := by decide +kernel
theorem d_Shop_coinsOf_5 : decode prog_10_method_6_code 5 = .ok (.bipush 8, 2) := by decide +kernel
theorem d_Shop_coinsOf_7 : decode prog_10_method_6_code 7 = .ok (.if_icmp .ge 12, 3) := by decide +kernel
theorem d_Shop_coinsOf_10 : decode prog_10_method_6_code 10 = .ok (.aload_n 0, 1) := by decide +kernel
theorem d_Shop_coinsOf_11 : decode prog_10_method_6_code 11 = .ok (.getfield 18, 3) := by decide +kernel
theorem d_Shop_coinsOf_14 : decode prog_10_method_6_code 14 = .ok (.iload_n 1, 1) := by decide +kernel
theorem d_Shop_coinsOf_15 : decode prog_10_method_6_code 15 = .ok (.iaload, 1) := by decide +kernel
theorem d_Shop_coinsOf_16 : decode prog_10_method_6_code 16 = .ok (.goto 4, 3) := by decide +kernel
theorem d_Shop_coinsOf_19 : decode prog_10_method_6_code 19 = .ok (.iconst 0, 1) := by decide +kernel
theorem d_Shop_coinsOf_20 : decode prog_10_method_6_code 20 = .ok (.ireturn, 1) := by decide +kernel
theorem d_P_purse_0 : decode prog_1_method_14_code 0 = .ok (.aload_n 0, 1) := by decide +kernel
theorem d_P_purse_1 : decode prog_1_method_14_code 1 = .ok (.getfield 35, 3) := by decide +kernel
theorem d_P_purse_4 : decode prog_1_method_14_code 4 = .ok (.getfield 164, 3) := by decide +kernel
theorem d_P_purse_7 : decode prog_1_method_14_code 7 = .ok (.iload_n 1, 1) := by decide +kernel
theorem d_P_purse_8 : decode prog_1_method_14_code 8 = .ok (.invokevirtual 174, 3) := by decide +kernel
theorem d_P_purse_11 : decode prog_1_method_14_code 11 = .ok (.invokestatic 178, 3) := by decide +kernel
theorem d_P_purse_14 : decode prog_1_method_14_code 14 = .ok (.aload_n 0, 1) := by decide +kernel
theorem d_P_purse_15 : decode prog_1_method_14_code 15 = .ok (.getfield 47, 3) := by decide +kernel
theorem d_P_purse_18 : decode prog_1_method_14_code 18 = .ok (.iload_n 1, 1) := by decide +kernel
theorem d_P_purse_19 : decode prog_1_method_14_code 19 = .ok (.invokevirtual 182, 3) := by decide +kernel
theorem d_P_purse_22 : decode prog_1_method_14_code 22 = .ok (.ireturn, 1) := by decide +kernel
theorem d_P_queueLength_0 : decode prog_1_method_28_code 0 = .ok (.aload_n 0, 1) := by decide +kernel
theorem d_P_queueLength_1 : decode prog_1_method_28_code 1 = .ok (.getfield 47, 3) := by decide +kernel
theorem d_P_queueLength_4 : decode prog_1_method_28_code 4 = .ok (.getfield 237, 3) := by decide +kernel
theorem d_P_queueLength_7 : decode prog_1_method_28_code 7 = .ok (.ireturn, 1) := by decide +kernel
theorem d_P_refundOf_0 : decode prog_1_method_27_code 0 = .ok (.aload_n 0, 1) := by decide +kernel
theorem d_P_refundOf_1 : decode prog_1_method_27_code 1 = .ok (.getfield 47, 3) := by decide +kernel
theorem d_P_refundOf_4 : decode prog_1_method_27_code 4 = .ok (.aload_n 0, 1) := by decide +kernel
theorem d_P_refundOf_5 : decode prog_1_method_27_code 5 = .ok (.iload_n 1, 1) := by decide +kernel
theorem d_P_refundOf_6 : decode prog_1_method_27_code 6 = .ok (.invokevirtual 198, 3) := by decide +kernel
theorem d_P_refundOf_9 : decode prog_1_method_27_code 9 = .ok (.invokevirtual 233, 3) := by decide +kernel
theorem d_P_refundOf_12 : decode prog_1_method_27_code 12 = .ok (.ireturn, 1) := by decide +kernel
theorem d_P_refundTotal_0 : decode prog_1_method_37_code 0 = .ok (.aload_n 0, 1) := by decide +kernel
theorem d_P_refundTotal_1 : decode prog_1_method_37_code 1 = .ok (.getfield 47, 3) := by decide +kernel
theorem d_P_refundTotal_4 : decode prog_1_method_37_code 4 = .ok (.getfield 275, 3) := by decide +kernel
theorem d_P_refundTotal_7 : decode prog_1_method_37_code 7 = .ok (.ireturn, 1) := by decide +kernel
theorem d_Shop_faultOfSale_0 : decode prog_10_method_8_code 0 = .ok (.iload_n 2, 1) := by decide +kernel
theorem d_Shop_faultOfSale_1 : decode prog_10_method_8_code 1 = .ok (.iconst 1, 1) := by decide +kernel
theorem d_Shop_faultOfSale_2 : decode prog_10_method_8_code 2 = .ok (.if_icmp .eq 18, 3) := by decide +kernel
theorem d_Shop_faultOfSale_5 : decode prog_10_method_8_code 5 = .ok (.aload_n 0, 1) := by decide +kernel
theorem d_Shop_faultOfSale_6 : decode prog_10_method_8_code 6 = .ok (.getfield 61, 3) := by decide +kernel
theorem d_Shop_faultOfSale_9 : decode prog_10_method_8_code 9 = .ok (.getfield 94, 3) := by decide +kernel
theorem d_Shop_faultOfSale_12 : decode prog_10_method_8_code 12 = .ok (.iload 4, 2) := by decide +kernel
theorem d_Shop_faultOfSale_14 : decode prog_10_method_8_code 14 = .ok (.invokevirtual 98, 3) := by decide +kernel
theorem d_Shop_faultOfSale_17 : decode prog_10_method_8_code 17 = .ok (.ifCond .eq 7, 3) := by decide +kernel
theorem d_Shop_faultOfSale_20 : decode prog_10_method_8_code 20 = .ok (.iconst 1, 1) := by decide +kernel
theorem d_Shop_faultOfSale_21 : decode prog_10_method_8_code 21 = .ok (.goto 4, 3) := by decide +kernel
theorem d_Shop_faultOfSale_24 : decode prog_10_method_8_code 24 = .ok (.iconst 0, 1) := by decide +kernel
theorem d_Shop_faultOfSale_25 : decode prog_10_method_8_code 25 = .ok (.istore 8, 2) := by decide +kernel
theorem d_Shop_faultOfSale_27 : decode prog_10_method_8_code 27 = .ok (.aload_n 0, 1) := by decide +kernel
theorem d_Shop_faultOfSale_28 : decode prog_10_method_8_code 28 = .ok (.getfield 61, 3) := by decide +kernel
theorem d_Shop_faultOfSale_31 : decode prog_10_method_8_code 31 = .ok (.getfield 103, 3) := by decide +kernel
theorem d_Shop_faultOfSale_34 : decode prog_10_method_8_code 34 = .ok (.iload_n 1, 1) := by decide +kernel
theorem d_Shop_faultOfSale_35 : decode prog_10_method_8_code 35 = .ok (.invokevirtual 98, 3) := by decide +kernel
theorem d_Shop_faultOfSale_38 : decode prog_10_method_8_code 38 = .ok (.ifCond .eq 22, 3) := by decide +kernel
theorem d_Shop_faultOfSale_41 : decode prog_10_method_8_code 41 = .ok (.aload_n 0, 1) := by decide +kernel
theorem d_Shop_faultOfSale_42 : decode prog_10_method_8_code 42 = .ok (.getfield 61, 3) := by decide +kernel
theorem d_Shop_faultOfSale_45 : decode prog_10_method_8_code 45 = .ok (.getfield 106, 3) := by decide +kernel
theorem d_Shop_faultOfSale_48 : decode prog_10_method_8_code 48 = .ok (.iload_n 3, 1) := by decide +kernel
theorem d_Shop_faultOfSale_49 : decode prog_10_method_8_code 49 = .ok (.invokevirtual 98, 3) := by decide +kernel
theorem d_Shop_faultOfSale_52 : decode prog_10_method_8_code 52 = .ok (.ifCond .eq 8, 3) := by decide +kernel
theorem d_Shop_faultOfSale_55 : decode prog_10_method_8_code 55 = .ok (.iload 8, 2) := by decide +kernel
theorem d_Shop_faultOfSale_57 : decode prog_10_method_8_code 57 = .ok (.ifCond .ne 5, 3) := by decide +kernel
theorem d_Shop_faultOfSale_60 : decode prog_10_method_8_code 60 = .ok (.iconst 1, 1) := by decide +kernel
theorem d_Shop_faultOfSale_61 : decode prog_10_method_8_code 61 = .ok (.ireturn, 1) := by decide +kernel
theorem d_Shop_faultOfSale_62 : decode prog_10_method_8_code 62 = .ok (.iload 5, 2) := by decide +kernel
theorem d_Shop_faultOfSale_64 : decode prog_10_method_8_code 64 = .ok (.iconst 0, 1) := by decide +kernel
theorem d_Shop_faultOfSale_65 : decode prog_10_method_8_code 65 = .ok (.bipush 99, 2) := by decide +kernel
theorem d_Shop_faultOfSale_67 : decode prog_10_method_8_code 67 = .ok (.invokestatic 109, 3) := by decide +kernel
theorem d_Shop_faultOfSale_70 : decode prog_10_method_8_code 70 = .ok (.ifCond .eq 26, 3) := by decide +kernel
theorem d_Shop_faultOfSale_73 : decode prog_10_method_8_code 73 = .ok (.iload 6, 2) := by decide +kernel
theorem d_Shop_faultOfSale_75 : decode prog_10_method_8_code 75 = .ok (.iconst 1, 1) := by decide +kernel
theorem d_Shop_faultOfSale_76 : decode prog_10_method_8_code 76 = .ok (.bipush 60, 2) := by decide +kernel
theorem d_Shop_faultOfSale_78 : decode prog_10_method_8_code 78 = .ok (.invokestatic 109, 3) := by decide +kernel
theorem d_Shop_faultOfSale_81 : decode prog_10_method_8_code 81 = .ok (.ifCond .eq 15, 3) := by decide +kernel
theorem d_Shop_faultOfSale_84 : decode prog_10_method_8_code 84 = .ok (.iload 7, 2) := by decide +kernel
theorem d_Shop_faultOfSale_86 : decode prog_10_method_8_code 86 = .ok (.iconst 1, 1) := by decide +kernel
theorem d_Shop_faultOfSale_87 : decode prog_10_method_8_code 87 = .ok (.sipush 999, 3) := by decide +kernel
theorem d_Shop_faultOfSale_90 : decode prog_10_method_8_code 90 = .ok (.invokestatic 109, 3) := by decide +kernel
theorem d_Shop_faultOfSale_93 : decode prog_10_method_8_code 93 = .ok (.ifCond .ne 5, 3) := by decide +kernel
theorem d_Shop_faultOfSale_96 : decode prog_10_method_8_code 96 = .ok (.iconst 2, 1) := by decide +kernel
theorem d_Shop_faultOfSale_97 : decode prog_10_method_8_code 97 = .ok (.ireturn, 1) := by decide +kernel
theorem d_Shop_faultOfSale_98 : decode prog_10_method_8_code 98 = .ok (.aload_n 0, 1) := by decide +kernel
theorem d_Shop_faultOfSale_99 : decode prog_10_method_8_code 99 = .ok (.getfield 28, 3) := by decide +kernel
theorem d_Shop_faultOfSale_102 : decode prog_10_method_8_code 102 = .ok (.bipush 24, 2) := by decide +kernel
theorem d_Shop_faultOfSale_104 : decode prog_10_method_8_code 104 = .ok (.if_icmp .ge 13, 3) := by decide +kernel
theorem d_Shop_faultOfSale_107 : decode prog_10_method_8_code 107 = .ok (.aload_n 0, 1) := by decide +kernel
theorem d_Shop_faultOfSale_108 : decode prog_10_method_8_code 108 = .ok (.iload_n 1, 1) := by decide +kernel
theorem d_Shop_faultOfSale_109 : decode prog_10_method_8_code 109 = .ok (.invokevirtual 113, 3) := by decide +kernel
theorem d_Shop_faultOfSale_112 : decode prog_10_method_8_code 112 = .ok (.iload 7, 2) := by decide +kernel
theorem d_Shop_faultOfSale_114 : decode prog_10_method_8_code 114 = .ok (.if_icmp .ge 7, 3) := by decide +kernel
theorem d_Shop_faultOfSale_117 : decode prog_10_method_8_code 117 = .ok (.iconst 3, 1) := by decide +kernel
theorem d_Shop_faultOfSale_118 : decode prog_10_method_8_code 118 = .ok (.goto 4, 3) := by decide +kernel
theorem d_Shop_faultOfSale_121 : decode prog_10_method_8_code 121 = .ok (.iconst 0, 1) := by decide +kernel
theorem d_Shop_faultOfSale_122 : decode prog_10_method_8_code 122 = .ok (.ireturn, 1) := by decide +kernel
theorem d_Shop_addProphecy_0 : decode prog_10_method_9_code 0 = .ok (.aload_n 0, 1) := by decide +kernel
theorem d_Shop_addProphecy_1 : decode prog_10_method_9_code 1 = .ok (.getfield 28, 3) := by decide +kernel
theorem d_Shop_addProphecy_4 : decode prog_10_method_9_code 4 = .ok (.bipush 24, 2) := by decide +kernel
theorem d_Shop_addProphecy_6 : decode prog_10_method_9_code 6 = .ok (.if_icmp .lt 5, 3) := by decide +kernel
theorem d_Shop_addProphecy_9 : decode prog_10_method_9_code 9 = .ok (.iconst (-1), 1) := by decide +kernel
theorem d_Shop_addProphecy_10 : decode prog_10_method_9_code 10 = .ok (.ireturn, 1) := by decide +kernel
theorem d_Shop_addProphecy_11 : decode prog_10_method_9_code 11 = .ok (.aload_n 0, 1) := by decide +kernel
theorem d_Shop_addProphecy_12 : decode prog_10_method_9_code 12 = .ok (.getfield 24, 3) := by decide +kernel
theorem d_Shop_addProphecy_15 : decode prog_10_method_9_code 15 = .ok (.aload_n 0, 1) := by decide +kernel
theorem d_Shop_addProphecy_16 : decode prog_10_method_9_code 16 = .ok (.getfield 28, 3) := by decide +kernel
theorem d_Shop_addProphecy_19 : decode prog_10_method_9_code 19 = .ok (.aaload, 1) := by decide +kernel
theorem d_Shop_addProphecy_20 : decode prog_10_method_9_code 20 = .ok (.astore 8, 2) := by decide +kernel
theorem d_Shop_addProphecy_22 : decode prog_10_method_9_code 22 = .ok (.aload 8, 2) := by decide +kernel
theorem d_Shop_addProphecy_24 : decode prog_10_method_9_code 24 = .ok (.iload_n 1, 1) := by decide +kernel
theorem d_Shop_addProphecy_25 : decode prog_10_method_9_code 25 = .ok (.putfield 116, 3) := by decide +kernel
theorem d_Shop_addProphecy_28 : decode prog_10_method_9_code 28 = .ok (.aload 8, 2) := by decide +kernel
theorem d_Shop_addProphecy_30 : decode prog_10_method_9_code 30 = .ok (.iload_n 2, 1) := by decide +kernel
theorem d_Shop_addProphecy_31 : decode prog_10_method_9_code 31 = .ok (.putfield 119, 3) := by decide +kernel
theorem d_Shop_addProphecy_34 : decode prog_10_method_9_code 34 = .ok (.aload 8, 2) := by decide +kernel
theorem d_Shop_addProphecy_36 : decode prog_10_method_9_code 36 = .ok (.iload_n 3, 1) := by decide +kernel
theorem d_Shop_addProphecy_37 : decode prog_10_method_9_code 37 = .ok (.putfield 122, 3) := by decide +kernel
theorem d_Shop_addProphecy_40 : decode prog_10_method_9_code 40 = .ok (.aload 8, 2) := by decide +kernel
theorem d_Shop_addProphecy_42 : decode prog_10_method_9_code 42 = .ok (.iload 4, 2) := by decide +kernel
theorem d_Shop_addProphecy_44 : decode prog_10_method_9_code 44 = .ok (.putfield 125, 3) := by decide +kernel
theorem d_Shop_addProphecy_47 : decode prog_10_method_9_code 47 = .ok (.aload 8, 2) := by decide +kernel
theorem d_Shop_addProphecy_49 : decode prog_10_method_9_code 49 = .ok (.aload_n 0, 1) := by decide +kernel
theorem d_Shop_addProphecy_50 : decode prog_10_method_9_code 50 = .ok (.getfield 9, 3) := by decide +kernel
theorem d_Shop_addProphecy_53 : decode prog_10_method_9_code 53 = .ok (.iload 5, 2) := by decide +kernel
theorem d_Shop_addProphecy_55 : decode prog_10_method_9_code 55 = .ok (.iadd, 1) := by decide +kernel
theorem d_Shop_addProphecy_56 : decode prog_10_method_9_code 56 = .ok (.putfield 128, 3) := by decide +kernel
theorem d_Shop_addProphecy_59 : decode prog_10_method_9_code 59 = .ok (.aload 8, 2) := by decide +kernel
theorem d_Shop_addProphecy_61 : decode prog_10_method_9_code 61 = .ok (.aload 8, 2) := by decide +kernel
theorem d_Shop_addProphecy_63 : decode prog_10_method_9_code 63 = .ok (.getfield 128, 3) := by decide +kernel
theorem d_Shop_addProphecy_66 : decode prog_10_method_9_code 66 = .ok (.iload 6, 2) := by decide +kernel
theorem d_Shop_addProphecy_68 : decode prog_10_method_9_code 68 = .ok (.iadd, 1) := by decide +kernel
theorem d_Shop_addProphecy_69 : decode prog_10_method_9_code 69 = .ok (.iconst 1, 1) := by decide +kernel
theorem d_Shop_addProphecy_70 : decode prog_10_method_9_code 70 = .ok (.isub, 1) := by decide +kernel
theorem d_Shop_addProphecy_71 : decode prog_10_method_9_code 71 = .ok (.putfield 131, 3) := by decide +kernel
theorem d_Shop_addProphecy_74 : decode prog_10_method_9_code 74 = .ok (.aload 8, 2) := by decide +kernel
theorem d_Shop_addProphecy_76 : decode prog_10_method_9_code 76 = .ok (.iload 7, 2) := by decide +kernel
theorem d_Shop_addProphecy_78 : decode prog_10_method_9_code 78 = .ok (.putfield 134, 3) := by decide +kernel
theorem d_Shop_addProphecy_81 : decode prog_10_method_9_code 81 = .ok (.aload 8, 2) := by decide +kernel
theorem d_Shop_addProphecy_83 : decode prog_10_method_9_code 83 = .ok (.iconst 0, 1) := by decide +kernel
theorem d_Shop_addProphecy_84 : decode prog_10_method_9_code 84 = .ok (.putfield 137, 3) := by decide +kernel
theorem d_Shop_addProphecy_87 : decode prog_10_method_9_code 87 = .ok (.aload 8, 2) := by decide +kernel
theorem d_Shop_addProphecy_89 : decode prog_10_method_9_code 89 = .ok (.iconst 0, 1) := by decide +kernel
theorem d_Shop_addProphecy_90 : decode prog_10_method_9_code 90 = .ok (.putfield 140, 3) := by decide +kernel
theorem d_Shop_addProphecy_93 : decode prog_10_method_9_code 93 = .ok (.aload_n 0, 1) := by decide +kernel
theorem d_Shop_addProphecy_94 : decode prog_10_method_9_code 94 = .ok (.iload_n 1, 1) := by decide +kernel
theorem d_Shop_addProphecy_95 : decode prog_10_method_9_code 95 = .ok (.iload 7, 2) := by decide +kernel
theorem d_Shop_addProphecy_97 : decode prog_10_method_9_code 97 = .ok (.ineg, 1) := by decide +kernel
theorem d_Shop_addProphecy_98 : decode prog_10_method_9_code 98 = .ok (.invokevirtual 143, 3) := by decide +kernel
theorem d_Shop_addProphecy_101 : decode prog_10_method_9_code 101 = .ok (.aload_n 0, 1) := by decide +kernel
theorem d_Shop_addProphecy_102 : decode prog_10_method_9_code 102 = .ok (.dup, 1) := by decide +kernel
theorem d_Shop_addProphecy_103 : decode prog_10_method_9_code 103 = .ok (.getfield 15, 3) := by decide +kernel
theorem d_Shop_addProphecy_106 : decode prog_10_method_9_code 106 = .ok (.iload 7, 2) := by decide +kernel
theorem d_Shop_addProphecy_108 : decode prog_10_method_9_code 108 = .ok (.iadd, 1) := by decide +kernel
theorem d_Shop_addProphecy_109 : decode prog_10_method_9_code 109 = .ok (.putfield 15, 3) := by decide +kernel
theorem d_Shop_addProphecy_112 : decode prog_10_method_9_code 112 = .ok (.aload_n 0, 1) := by decide +kernel
theorem d_Shop_addProphecy_113 : decode prog_10_method_9_code 113 = .ok (.dup, 1) := by decide +kernel
theorem d_Shop_addProphecy_114 : decode prog_10_method_9_code 114 = .ok (.getfield 28, 3) := by decide +kernel
theorem d_Shop_addProphecy_117 : decode prog_10_method_9_code 117 = .ok (.iconst 1, 1) := by decide +kernel
theorem d_Shop_addProphecy_118 : decode prog_10_method_9_code 118 = .ok (.iadd, 1) := by decide +kernel
theorem d_Shop_addProphecy_119 : decode prog_10_method_9_code 119 = .ok (.putfield 28, 3) := by decide +kernel
theorem d_Shop_addProphecy_122 : decode prog_10_method_9_code 122 = .ok (.aload_n 0, 1) := by decide +kernel
theorem d_Shop_addProphecy_123 : decode prog_10_method_9_code 123 = .ok (.getfield 28, 3) := by decide +kernel
theorem d_Shop_addProphecy_126 : decode prog_10_method_9_code 126 = .ok (.iconst 1, 1) := by decide +kernel
theorem d_Shop_addProphecy_127 : decode prog_10_method_9_code 127 = .ok (.isub, 1) := by decide +kernel
theorem d_Shop_addProphecy_128 : decode prog_10_method_9_code 128 = .ok (.ireturn, 1) := by decide +kernel
theorem d_P_sellAny_0 : decode prog_1_method_58_code 0 = .ok (.aload_n 0, 1) := by decide +kernel
theorem d_P_sellAny_1 : decode prog_1_method_58_code 1 = .ok (.getfield 47, 3) := by decide +kernel
theorem d_P_sellAny_4 : decode prog_1_method_58_code 4 = .ok (.iload_n 1, 1) := by decide +kernel
theorem d_P_sellAny_5 : decode prog_1_method_58_code 5 = .ok (.iload_n 2, 1) := by decide +kernel
theorem d_P_sellAny_6 : decode prog_1_method_58_code 6 = .ok (.iload_n 3, 1) := by decide +kernel
theorem d_P_sellAny_7 : decode prog_1_method_58_code 7 = .ok (.iload 4, 2) := by decide +kernel
theorem d_P_sellAny_9 : decode prog_1_method_58_code 9 = .ok (.iload 5, 2) := by decide +kernel
theorem d_P_sellAny_11 : decode prog_1_method_58_code 11 = .ok (.iload 6, 2) := by decide +kernel
theorem d_P_sellAny_13 : decode prog_1_method_58_code 13 = .ok (.iload 7, 2) := by decide +kernel
theorem d_P_sellAny_15 : decode prog_1_method_58_code 15 = .ok (.invokevirtual 362, 3) := by decide +kernel
theorem d_P_sellAny_18 : decode prog_1_method_58_code 18 = .ok (.invokestatic 312, 3) := by decide +kernel
theorem d_P_sellAny_21 : decode prog_1_method_58_code 21 = .ok (.aload_n 0, 1) := by decide +kernel
theorem d_P_sellAny_22 : decode prog_1_method_58_code 22 = .ok (.getfield 57, 3) := by decide +kernel
theorem d_P_sellAny_25 : decode prog_1_method_58_code 25 = .ok (.aload_n 0, 1) := by decide +kernel
theorem d_P_sellAny_26 : decode prog_1_method_58_code 26 = .ok (.getfield 47, 3) := by decide +kernel
theorem d_P_sellAny_29 : decode prog_1_method_58_code 29 = .ok (.invokevirtual 138, 3) := by decide +kernel
theorem d_P_sellAny_32 : decode prog_1_method_58_code 32 = .ok (.aload_n 0, 1) := by decide +kernel
theorem d_P_sellAny_33 : decode prog_1_method_58_code 33 = .ok (.getfield 47, 3) := by decide +kernel
theorem d_P_sellAny_36 : decode prog_1_method_58_code 36 = .ok (.iload_n 1, 1) := by decide +kernel
theorem d_P_sellAny_37 : decode prog_1_method_58_code 37 = .ok (.iload_n 2, 1) := by decide +kernel
theorem d_P_sellAny_38 : decode prog_1_method_58_code 38 = .ok (.iload_n 3, 1) := by decide +kernel
theorem d_P_sellAny_39 : decode prog_1_method_58_code 39 = .ok (.iload 4, 2) := by decide +kernel
theorem d_P_sellAny_41 : decode prog_1_method_58_code 41 = .ok (.iload 5, 2) := by decide +kernel
theorem d_P_sellAny_43 : decode prog_1_method_58_code 43 = .ok (.iload 6, 2) := by decide +kernel
theorem d_P_sellAny_45 : decode prog_1_method_58_code 45 = .ok (.iload 7, 2) := by decide +kernel
theorem d_P_sellAny_47 : decode prog_1_method_58_code 47 = .ok (.invokevirtual 365, 3) := by decide +kernel
theorem d_P_sellAny_50 : decode prog_1_method_58_code 50 = .ok (.ireturn, 1) := by decide +kernel
theorem d_P_sellDenial_0 : decode prog_1_method_46_code 0 = .ok (.aload_n 0, 1) := by decide +kernel
theorem d_P_sellDenial_1 : decode prog_1_method_46_code 1 = .ok (.iload_n 1, 1) := by decide +kernel
theorem d_P_sellDenial_2 : decode prog_1_method_46_code 2 = .ok (.iconst 2, 1) := by decide +kernel
theorem d_P_sellDenial_3 : decode prog_1_method_46_code 3 = .ok (.iload_n 2, 1) := by decide +kernel
theorem d_P_sellDenial_4 : decode prog_1_method_46_code 4 = .ok (.iload_n 3, 1) := by decide +kernel
theorem d_P_sellDenial_5 : decode prog_1_method_46_code 5 = .ok (.iload 4, 2) := by decide +kernel
theorem d_P_sellDenial_7 : decode prog_1_method_46_code 7 = .ok (.iload 5, 2) := by decide +kernel
theorem d_P_sellDenial_9 : decode prog_1_method_46_code 9 = .ok (.iload 6, 2) := by decide +kernel
theorem d_P_sellDenial_11 : decode prog_1_method_46_code 11 = .ok (.invokevirtual 305, 3) := by decide +kernel
theorem d_P_sellDenial_14 : decode prog_1_method_46_code 14 = .ok (.ireturn, 1) := by decide +kernel
theorem d_P_sellPlain_0 : decode prog_1_method_44_code 0 = .ok (.aload_n 0, 1) := by decide +kernel
theorem d_P_sellPlain_1 : decode prog_1_method_44_code 1 = .ok (.iload_n 1, 1) := by decide +kernel
theorem d_P_sellPlain_2 : decode prog_1_method_44_code 2 = .ok (.iconst 0, 1) := by decide +kernel
theorem d_P_sellPlain_3 : decode prog_1_method_44_code 3 = .ok (.iload_n 2, 1) := by decide +kernel
theorem d_P_sellPlain_4 : decode prog_1_method_44_code 4 = .ok (.iload_n 3, 1) := by decide +kernel
theorem d_P_sellPlain_5 : decode prog_1_method_44_code 5 = .ok (.iload 4, 2) := by decide +kernel
theorem d_P_sellPlain_7 : decode prog_1_method_44_code 7 = .ok (.iload 5, 2) := by decide +kernel
theorem d_P_sellPlain_9 : decode prog_1_method_44_code 9 = .ok (.iload 6, 2) := by decide +kernel
theorem d_P_sellPlain_11 : decode prog_1_method_44_code 11 = .ok (.invokevirtual 305, 3) := by decide +kernel
theorem d_P_sellPlain_14 : decode prog_1_method_44_code 14 = .ok (.ireturn, 1) := by decide +kernel
theorem d_P_sellVague_0 : decode prog_1_method_45_code 0 = .ok (.aload_n 0, 1) := by decide +kernel
theorem d_P_sellVague_1 : decode prog_1_method_45_code 1 = .ok (.iload_n 1, 1) := by decide +kernel
theorem d_P_sellVague_2 : decode prog_1_method_45_code 2 = .ok (.iconst 1, 1) := by decide +kernel
theorem d_P_sellVague_3 : decode prog_1_method_45_code 3 = .ok (.iload_n 2, 1) := by decide +kernel
theorem d_P_sellVague_4 : decode prog_1_method_45_code 4 = .ok (.iconst (-1), 1) := by decide +kernel
theorem d_P_sellVague_5 : decode prog_1_method_45_code 5 = .ok (.iload_n 3, 1) := by decide +kernel
theorem d_P_sellVague_6 : decode prog_1_method_45_code 6 = .ok (.iload 4, 2) := by decide +kernel
theorem d_P_sellVague_8 : decode prog_1_method_45_code 8 = .ok (.iload 5, 2) := by decide +kernel
theorem d_P_sellVague_10 : decode prog_1_method_45_code 10 = .ok (.invokevirtual 305, 3) := by decide +kernel
theorem d_P_sellVague_13 : decode prog_1_method_45_code 13 = .ok (.ireturn, 1) := by decide +kernel
theorem d_P_stateOf_0 : decode prog_1_method_25_code 0 = .ok (.aload_n 0, 1) := by decide +kernel
theorem d_P_stateOf_1 : decode prog_1_method_25_code 1 = .ok (.iload_n 1, 1) := by decide +kernel
theorem d_P_stateOf_2 : decode prog_1_method_25_code 2 = .ok (.invokevirtual 198, 3) := by decide +kernel
theorem d_P_stateOf_5 : decode prog_1_method_25_code 5 = .ok (.getfield 222, 3) := by decide +kernel
theorem d_P_stateOf_8 : decode prog_1_method_25_code 8 = .ok (.ireturn, 1) := by decide +kernel
theorem d_P_timesHappened_0 : decode prog_1_method_15_code 0 = .ok (.aload_n 0, 1) := by decide +kernel
theorem d_P_timesHappened_1 : decode prog_1_method_15_code 1 = .ok (.getfield 35, 3) := by decide +kernel
theorem d_P_timesHappened_4 : decode prog_1_method_15_code 4 = .ok (.getfield 152, 3) := by decide +kernel
theorem d_P_timesHappened_7 : decode prog_1_method_15_code 7 = .ok (.iload_n 1, 1) := by decide +kernel
theorem d_P_timesHappened_8 : decode prog_1_method_15_code 8 = .ok (.invokevirtual 174, 3) := by decide +kernel
theorem d_P_timesHappened_11 : decode prog_1_method_15_code 11 = .ok (.ifCond .eq 21, 3) := by decide +kernel
theorem d_P_timesHappened_14 : decode prog_1_method_15_code 14 = .ok (.aload_n 0, 1) := by decide +kernel
theorem d_P_timesHappened_15 : decode prog_1_method_15_code 15 = .ok (.getfield 35, 3) := by decide +kernel
theorem d_P_timesHappened_18 : decode prog_1_method_15_code 18 = .ok (.getfield 161, 3) := by decide +kernel
theorem d_P_timesHappened_21 : decode prog_1_method_15_code 21 = .ok (.iload_n 2, 1) := by decide +kernel
theorem d_P_timesHappened_22 : decode prog_1_method_15_code 22 = .ok (.invokevirtual 174, 3) := by decide +kernel
theorem d_P_timesHappened_25 : decode prog_1_method_15_code 25 = .ok (.ifCond .eq 7, 3) := by decide +kernel
theorem d_P_timesHappened_28 : decode prog_1_method_15_code 28 = .ok (.iconst 1, 1) := by decide +kernel
theorem d_P_timesHappened_29 : decode prog_1_method_15_code 29 = .ok (.goto 4, 3) := by decide +kernel
theorem d_P_timesHappened_32 : decode prog_1_method_15_code 32 = .ok (.iconst 0, 1) := by decide +kernel
theorem d_P_timesHappened_33 : decode prog_1_method_15_code 33 = .ok (.invokestatic 178, 3) := by decide +kernel
theorem d_P_timesHappened_36 : decode prog_1_method_15_code 36 = .ok (.aload_n 0, 1) := by decide +kernel
theorem d_P_timesHappened_37 : decode prog_1_method_15_code 37 = .ok (.getfield 47, 3) := by decide +kernel
theorem d_P_timesHappened_40 : decode prog_1_method_15_code 40 = .ok (.iload_n 1, 1) := by decide +kernel
theorem d_P_timesHappened_41 : decode prog_1_method_15_code 41 = .ok (.iload_n 2, 1) := by decide +kernel
theorem d_P_timesHappened_42 : decode prog_1_method_15_code 42 = .ok (.invokevirtual 185, 3) := by decide +kernel
theorem d_P_timesHappened_45 : decode prog_1_method_15_code 45 = .ok (.ireturn, 1) := by decide +kernel
theorem d_P_truthShare_0 : decode prog_1_method_38_code 0 = .ok (.aload_n 0, 1) := by decide +kernel
theorem d_P_truthShare_1 : decode prog_1_method_38_code 1 = .ok (.getfield 47, 3) := by decide +kernel
theorem d_P_truthShare_4 : decode prog_1_method_38_code 4 = .ok (.getfield 195, 3) := by decide +kernel
theorem d_P_truthShare_7 : decode prog_1_method_38_code 7 = .ok (.aload_n 0, 1) := by decide +kernel
theorem d_P_truthShare_8 : decode prog_1_method_38_code 8 = .ok (.getfield 47, 3) := by decide +kernel
theorem d_P_truthShare_11 : decode prog_1_method_38_code 11 = .ok (.iconst 0, 1) := by decide +kernel
theorem d_P_truthShare_12 : decode prog_1_method_38_code 12 = .ok (.invokevirtual 269, 3) := by decide +kernel
theorem d_P_truthShare_15 : decode prog_1_method_38_code 15 = .ok (.isub, 1) := by decide +kernel
theorem d_P_truthShare_16 : decode prog_1_method_38_code 16 = .ok (.istore_n 1, 1) := by decide +kernel
theorem d_P_truthShare_17 : decode prog_1_method_38_code 17 = .ok (.iload_n 1, 1) := by decide +kernel
theorem d_P_truthShare_18 : decode prog_1_method_38_code 18 = .ok (.ifCond .ne 7, 3) := by decide +kernel
theorem d_P_truthShare_21 : decode prog_1_method_38_code 21 = .ok (.fconst 0, 1) := by decide +kernel
theorem d_P_truthShare_22 : decode prog_1_method_38_code 22 = .ok (.goto 15, 3) := by decide +kernel
theorem d_P_truthShare_25 : decode prog_1_method_38_code 25 = .ok (.aload_n 0, 1) := by decide +kernel
theorem d_P_truthShare_26 : decode prog_1_method_38_code 26 = .ok (.getfield 47, 3) := by decide +kernel
theorem d_P_truthShare_29 : decode prog_1_method_38_code 29 = .ok (.iconst 1, 1) := by decide +kernel
theorem d_P_truthShare_30 : decode prog_1_method_38_code 30 = .ok (.invokevirtual 269, 3) := by decide +kernel
theorem d_P_truthShare_33 : decode prog_1_method_38_code 33 = .ok (.i2f, 1) := by decide +kernel
theorem d_P_truthShare_34 : decode prog_1_method_38_code 34 = .ok (.iload_n 1, 1) := by decide +kernel
theorem d_P_truthShare_35 : decode prog_1_method_38_code 35 = .ok (.i2f, 1) := by decide +kernel
theorem d_P_truthShare_36 : decode prog_1_method_38_code 36 = .ok (.fdiv, 1) := by decide +kernel
theorem d_P_truthShare_37 : decode prog_1_method_38_code 37 = .ok (.freturn, 1) := by decide +kernel
theorem d_P_undo_0 : decode prog_1_method_54_code 0 = .ok (.aload_n 0, 1) := by decide +kernel
theorem d_P_undo_1 : decode prog_1_method_54_code 1 = .ok (.getfield 57, 3) := by decide +kernel
theorem d_P_undo_4 : decode prog_1_method_54_code 4 = .ok (.getfield 348, 3) := by decide +kernel
theorem d_P_undo_7 : decode prog_1_method_54_code 7 = .ok (.ifCond .ne 14, 3) := by decide +kernel
theorem d_P_undo_10 : decode prog_1_method_54_code 10 = .ok (.new 108, 3) := by decide +kernel
theorem d_P_undo_13 : decode prog_1_method_54_code 13 = .ok (.dup, 1) := by decide +kernel
theorem d_P_undo_14 : decode prog_1_method_54_code 14 = .ok (.ldc_w 349, 3) := by decide +kernel
theorem d_P_undo_17 : decode prog_1_method_54_code 17 = .ok (.invokespecial 112, 3) := by decide +kernel
theorem d_P_undo_20 : decode prog_1_method_54_code 20 = .ok (.athrow, 1) := by decide +kernel
theorem d_P_undo_21 : decode prog_1_method_54_code 21 = .ok (.aload_n 0, 1) := by decide +kernel
theorem d_P_undo_22 : decode prog_1_method_54_code 22 = .ok (.getfield 57, 3) := by decide +kernel
theorem d_P_undo_25 : decode prog_1_method_54_code 25 = .ok (.aload_n 0, 1) := by decide +kernel
theorem d_P_undo_26 : decode prog_1_method_54_code 26 = .ok (.getfield 47, 3) := by decide +kernel
theorem d_P_undo_29 : decode prog_1_method_54_code 29 = .ok (.invokevirtual 351, 3) := by decide +kernel
theorem d_P_undo_32 : decode prog_1_method_54_code 32 = .ok (.aload_n 0, 1) := by decide +kernel
theorem d_P_undo_33 : decode prog_1_method_54_code 33 = .ok (.getfield 57, 3) := by decide +kernel
theorem d_P_undo_36 : decode prog_1_method_54_code 36 = .ok (.getfield 348, 3) := by decide +kernel
theorem d_P_undo_39 : decode prog_1_method_54_code 39 = .ok (.ireturn, 1) := by decide +kernel
theorem d_P_undoCount_0 : decode prog_1_method_53_code 0 = .ok (.aload_n 0, 1) := by decide +kernel
theorem d_P_undoCount_1 : decode prog_1_method_53_code 1 = .ok (.getfield 57, 3) := by decide +kernel
theorem d_P_undoCount_4 : decode prog_1_method_53_code 4 = .ok (.getfield 348, 3) := by decide +kernel
theorem d_P_undoCount_7 : decode prog_1_method_53_code 7 = .ok (.ireturn, 1) := by decide +kernel
theorem d_Own_refund_0 : decode prog_14_method_3_code 0 = .ok (.aload_n 0, 1) := by decide +kernel
theorem d_Own_refund_1 : decode prog_14_method_3_code 1 = .ok (.getfield 46, 3) := by decide +kernel
theorem d_Own_refund_4 : decode prog_14_method_3_code 4 = .ok (.iload_n 1, 1) := by decide +kernel
theorem d_Own_refund_5 : decode prog_14_method_3_code 5 = .ok (.iaload, 1) := by decide +kernel
theorem d_Own_refund_6 : decode prog_14_method_3_code 6 = .ok (.aload_n 0, 1) := by decide +kernel
theorem d_Own_refund_7 : decode prog_14_method_3_code 7 = .ok (.getfield 37, 3) := by decide +kernel
theorem d_Own_refund_10 : decode prog_14_method_3_code 10 = .ok (.iload_n 1, 1) := by decide +kernel
theorem d_Own_refund_11 : decode prog_14_method_3_code 11 = .ok (.iaload, 1) := by decide +kernel
theorem d_Own_refund_12 : decode prog_14_method_3_code 12 = .ok (.ifCond .ge 10, 3) := by decide +kernel
theorem d_Own_refund_15 : decode prog_14_method_3_code 15 = .ok (.aload_n 0, 1) := by decide +kernel
theorem d_Own_refund_16 : decode prog_14_method_3_code 16 = .ok (.getfield 85, 3) := by decide +kernel
theorem d_Own_refund_19 : decode prog_14_method_3_code 19 = .ok (.goto 7, 3) := by decide +kernel
theorem d_Own_refund_22 : decode prog_14_method_3_code 22 = .ok (.aload_n 0, 1) := by decide +kernel
theorem d_Own_refund_23 : decode prog_14_method_3_code 23 = .ok (.getfield 82, 3) := by decide +kernel
theorem d_Own_refund_26 : decode prog_14_method_3_code 26 = .ok (.imul, 1) := by decide +kernel
theorem d_Own_refund_27 : decode prog_14_method_3_code 27 = .ok (.bipush 100, 2) := by decide +kernel
theorem d_Own_refund_29 : decode prog_14_method_3_code 29 = .ok (.idiv, 1) := by decide +kernel
theorem d_Own_refund_30 : decode prog_14_method_3_code 30 = .ok (.ireturn, 1) := by decide +kernel
theorem d_Own_expected_0 : decode prog_14_method_4_code 0 = .ok (.aload_n 0, 1) := by decide +kernel
theorem d_Own_expected_1 : decode prog_14_method_4_code 1 = .ok (.getfield 49, 3) := by decide +kernel
theorem d_Own_expected_4 : decode prog_14_method_4_code 4 = .ok (.iload_n 1, 1) := by decide +kernel
theorem d_Own_expected_5 : decode prog_14_method_4_code 5 = .ok (.iaload, 1) := by decide +kernel
theorem d_Own_expected_6 : decode prog_14_method_4_code 6 = .ok (.ifCond .ne 7, 3) := by decide +kernel
theorem d_Own_expected_9 : decode prog_14_method_4_code 9 = .ok (.iconst 2, 1) := by decide +kernel
theorem d_Own_expected_10 : decode prog_14_method_4_code 10 = .ok (.goto 71, 3) := by decide +kernel
theorem d_Own_expected_13 : decode prog_14_method_4_code 13 = .ok (.aload_n 0, 1) := by decide +kernel
theorem d_Own_expected_14 : decode prog_14_method_4_code 14 = .ok (.getfield 49, 3) := by decide +kernel
theorem d_Own_expected_17 : decode prog_14_method_4_code 17 = .ok (.iload_n 1, 1) := by decide +kernel
theorem d_Own_expected_18 : decode prog_14_method_4_code 18 = .ok (.iaload, 1) := by decide +kernel
theorem d_Own_expected_19 : decode prog_14_method_4_code 19 = .ok (.iconst 1, 1) := by decide +kernel
theorem d_Own_expected_20 : decode prog_14_method_4_code 20 = .ok (.if_icmp .ne 7, 3) := by decide +kernel
theorem d_Own_expected_23 : decode prog_14_method_4_code 23 = .ok (.iconst 3, 1) := by decide +kernel
theorem d_Own_expected_24 : decode prog_14_method_4_code 24 = .ok (.goto 57, 3) := by decide +kernel
theorem d_Own_expected_27 : decode prog_14_method_4_code 27 = .ok (.aload_n 0, 1) := by decide +kernel
theorem d_Own_expected_28 : decode prog_14_method_4_code 28 = .ok (.getfield 49, 3) := by decide +kernel
theorem d_Own_expected_31 : decode prog_14_method_4_code 31 = .ok (.iload_n 1, 1) := by decide +kernel
theorem d_Own_expected_32 : decode prog_14_method_4_code 32 = .ok (.iaload, 1) := by decide +kernel
theorem d_Own_expected_33 : decode prog_14_method_4_code 33 = .ok (.iconst 3, 1) := by decide +kernel
theorem d_Own_expected_34 : decode prog_14_method_4_code 34 = .ok (.if_icmp .ne 7, 3) := by decide +kernel
theorem d_Own_expected_37 : decode prog_14_method_4_code 37 = .ok (.iconst 4, 1) := by decide +kernel
theorem d_Own_expected_38 : decode prog_14_method_4_code 38 = .ok (.goto 43, 3) := by decide +kernel
theorem d_Own_expected_41 : decode prog_14_method_4_code 41 = .ok (.aload_n 0, 1) := by decide +kernel
theorem d_Own_expected_42 : decode prog_14_method_4_code 42 = .ok (.getfield 88, 3) := by decide +kernel
theorem d_Own_expected_45 : decode prog_14_method_4_code 45 = .ok (.aload_n 0, 1) := by decide +kernel
theorem d_Own_expected_46 : decode prog_14_method_4_code 46 = .ok (.getfield 52, 3) := by decide +kernel
theorem d_Own_expected_49 : decode prog_14_method_4_code 49 = .ok (.iload_n 1, 1) := by decide +kernel
theorem d_Own_expected_50 : decode prog_14_method_4_code 50 = .ok (.iaload, 1) := by decide +kernel
theorem d_Own_expected_51 : decode prog_14_method_4_code 51 = .ok (.aload_n 0, 1) := by decide +kernel
theorem d_Own_expected_52 : decode prog_14_method_4_code 52 = .ok (.getfield 79, 3) := by decide +kernel
theorem d_Own_expected_55 : decode prog_14_method_4_code 55 = .ok (.iadd, 1) := by decide +kernel
theorem d_Own_expected_56 : decode prog_14_method_4_code 56 = .ok (.if_icmp .le 7, 3) := by decide +kernel
theorem d_Own_expected_59 : decode prog_14_method_4_code 59 = .ok (.iconst 5, 1) := by decide +kernel
theorem d_Own_expected_60 : decode prog_14_method_4_code 60 = .ok (.goto 21, 3) := by decide +kernel
theorem d_Own_expected_63 : decode prog_14_method_4_code 63 = .ok (.aload_n 0, 1) := by decide +kernel
theorem d_Own_expected_64 : decode prog_14_method_4_code 64 = .ok (.iload_n 1, 1) := by decide +kernel
theorem d_Own_expected_65 : decode prog_14_method_4_code 65 = .ok (.invokevirtual 118, 3) := by decide +kernel
theorem d_Own_expected_68 : decode prog_14_method_4_code 68 = .ok (.aload_n 0, 1) := by decide +kernel
theorem d_Own_expected_69 : decode prog_14_method_4_code 69 = .ok (.getfield 72, 3) := by decide +kernel
theorem d_Own_expected_72 : decode prog_14_method_4_code 72 = .ok (.if_icmp .le 8, 3) := by decide +kernel
theorem d_Own_expected_75 : decode prog_14_method_4_code 75 = .ok (.bipush 6, 2) := by decide +kernel
theorem d_Own_expected_77 : decode prog_14_method_4_code 77 = .ok (.goto 4, 3) := by decide +kernel
theorem d_Own_expected_80 : decode prog_14_method_4_code 80 = .ok (.iconst 1, 1) := by decide +kernel
theorem d_Own_expected_81 : decode prog_14_method_4_code 81 = .ok (.ireturn, 1) := by decide +kernel
theorem d_Own_happens_0 : decode prog_14_method_11_code 0 = .ok (.iconst 0, 1) := by decide +kernel
theorem d_Own_happens_1 : decode prog_14_method_11_code 1 = .ok (.istore_n 3, 1) := by decide +kernel
theorem d_Own_happens_2 : decode prog_14_method_11_code 2 = .ok (.aload_n 0, 1) := by decide +kernel
theorem d_Own_happens_3 : decode prog_14_method_11_code 3 = .ok (.getfield 65, 3) := by decide +kernel
theorem d_Own_happens_6 : decode prog_14_method_11_code 6 = .ok (.aload_n 0, 1) := by decide +kernel
theorem d_Own_happens_7 : decode prog_14_method_11_code 7 = .ok (.getfield 106, 3) := by decide +kernel
theorem d_Own_happens_10 : decode prog_14_method_11_code 10 = .ok (.bipush 6, 2) := by decide +kernel
theorem d_Own_happens_12 : decode prog_14_method_11_code 12 = .ok (.iload_n 1, 1) := by decide +kernel
theorem d_Own_happens_13 : decode prog_14_method_11_code 13 = .ok (.imul, 1) := by decide +kernel
theorem d_Own_happens_14 : decode prog_14_method_11_code 14 = .ok (.iload_n 2, 1) := by decide +kernel
theorem d_Own_happens_15 : decode prog_14_method_11_code 15 = .ok (.iadd, 1) := by decide +kernel
theorem d_Own_happens_16 : decode prog_14_method_11_code 16 = .ok (.iastore, 1) := by decide +kernel
theorem d_Own_happens_17 : decode prog_14_method_11_code 17 = .ok (.aload_n 0, 1) := by decide +kernel
theorem d_Own_happens_18 : decode prog_14_method_11_code 18 = .ok (.getfield 68, 3) := by decide +kernel
theorem d_Own_happens_21 : decode prog_14_method_11_code 21 = .ok (.aload_n 0, 1) := by decide +kernel
theorem d_Own_happens_22 : decode prog_14_method_11_code 22 = .ok (.getfield 106, 3) := by decide +kernel
theorem d_Own_happens_25 : decode prog_14_method_11_code 25 = .ok (.aload_n 0, 1) := by decide +kernel
theorem d_Own_happens_26 : decode prog_14_method_11_code 26 = .ok (.getfield 88, 3) := by decide +kernel
theorem d_Own_happens_29 : decode prog_14_method_11_code 29 = .ok (.iastore, 1) := by decide +kernel
theorem d_Own_happens_30 : decode prog_14_method_11_code 30 = .ok (.aload_n 0, 1) := by decide +kernel
theorem d_Own_happens_31 : decode prog_14_method_11_code 31 = .ok (.dup, 1) := by decide +kernel
theorem d_Own_happens_32 : decode prog_14_method_11_code 32 = .ok (.getfield 106, 3) := by decide +kernel
theorem d_Own_happens_35 : decode prog_14_method_11_code 35 = .ok (.iconst 1, 1) := by decide +kernel
theorem d_Own_happens_36 : decode prog_14_method_11_code 36 = .ok (.iadd, 1) := by decide +kernel
theorem d_Own_happens_37 : decode prog_14_method_11_code 37 = .ok (.putfield 106, 3) := by decide +kernel
theorem d_Own_happens_40 : decode prog_14_method_11_code 40 = .ok (.iconst 0, 1) := by decide +kernel
theorem d_Own_happens_41 : decode prog_14_method_11_code 41 = .ok (.istore 4, 2) := by decide +kernel
theorem d_Own_happens_43 : decode prog_14_method_11_code 43 = .ok (.iload 4, 2) := by decide +kernel
theorem d_Own_happens_45 : decode prog_14_method_11_code 45 = .ok (.aload_n 0, 1) := by decide +kernel
theorem d_Own_happens_46 : decode prog_14_method_11_code 46 = .ok (.getfield 103, 3) := by decide +kernel
theorem d_Own_happens_49 : decode prog_14_method_11_code 49 = .ok (.if_icmp .ge 104, 3) := by decide +kernel
theorem d_Own_happens_52 : decode prog_14_method_11_code 52 = .ok (.aload_n 0, 1) := by decide +kernel
theorem d_Own_happens_53 : decode prog_14_method_11_code 53 = .ok (.getfield 49, 3) := by decide +kernel
theorem d_Own_happens_56 : decode prog_14_method_11_code 56 = .ok (.iload 4, 2) := by decide +kernel
theorem d_Own_happens_58 : decode prog_14_method_11_code 58 = .ok (.iaload, 1) := by decide +kernel
theorem d_Own_happens_59 : decode prog_14_method_11_code 59 = .ok (.ifCond .ne 88, 3) := by decide +kernel
theorem d_Own_happens_62 : decode prog_14_method_11_code 62 = .ok (.aload_n 0, 1) := by decide +kernel
theorem d_Own_happens_63 : decode prog_14_method_11_code 63 = .ok (.getfield 34, 3) := by decide +kernel
theorem d_Own_happens_66 : decode prog_14_method_11_code 66 = .ok (.iload 4, 2) := by decide +kernel
theorem d_Own_happens_68 : decode prog_14_method_11_code 68 = .ok (.iaload, 1) := by decide +kernel
theorem d_Own_happens_69 : decode prog_14_method_11_code 69 = .ok (.iload_n 1, 1) := by decide +kernel
theorem d_Own_happens_70 : decode prog_14_method_11_code 70 = .ok (.if_icmp .ne 77, 3) := by decide +kernel
theorem d_Own_happens_73 : decode prog_14_method_11_code 73 = .ok (.aload_n 0, 1) := by decide +kernel
theorem d_Own_happens_74 : decode prog_14_method_11_code 74 = .ok (.getfield 40, 3) := by decide +kernel
theorem d_Own_happens_77 : decode prog_14_method_11_code 77 = .ok (.iload 4, 2) := by decide +kernel
theorem d_Own_happens_79 : decode prog_14_method_11_code 79 = .ok (.iaload, 1) := by decide +kernel
theorem d_Own_happens_80 : decode prog_14_method_11_code 80 = .ok (.aload_n 0, 1) := by decide +kernel
theorem d_Own_happens_81 : decode prog_14_method_11_code 81 = .ok (.getfield 88, 3) := by decide +kernel
theorem d_Own_happens_84 : decode prog_14_method_11_code 84 = .ok (.if_icmp .gt 63, 3) := by decide +kernel
theorem d_Own_happens_87 : decode prog_14_method_11_code 87 = .ok (.aload_n 0, 1) := by decide +kernel
theorem d_Own_happens_88 : decode prog_14_method_11_code 88 = .ok (.getfield 37, 3) := by decide +kernel
theorem d_Own_happens_91 : decode prog_14_method_11_code 91 = .ok (.iload 4, 2) := by decide +kernel
theorem d_Own_happens_93 : decode prog_14_method_11_code 93 = .ok (.iaload, 1) := by decide +kernel
theorem d_Own_happens_94 : decode prog_14_method_11_code 94 = .ok (.ifCond .lt 17, 3) := by decide +kernel
theorem d_Own_happens_97 : decode prog_14_method_11_code 97 = .ok (.aload_n 0, 1) := by decide +kernel
theorem d_Own_happens_98 : decode prog_14_method_11_code 98 = .ok (.getfield 37, 3) := by decide +kernel
theorem d_Own_happens_101 : decode prog_14_method_11_code 101 = .ok (.iload 4, 2) := by decide +kernel
theorem d_Own_happens_103 : decode prog_14_method_11_code 103 = .ok (.iaload, 1) := by decide +kernel
theorem d_Own_happens_104 : decode prog_14_method_11_code 104 = .ok (.iload_n 2, 1) := by decide +kernel
theorem d_Own_happens_105 : decode prog_14_method_11_code 105 = .ok (.if_icmp .eq 6, 3) := by decide +kernel
theorem d_Own_happens_108 : decode prog_14_method_11_code 108 = .ok (.goto 39, 3) := by decide +kernel
theorem d_Own_happens_111 : decode prog_14_method_11_code 111 = .ok (.aload_n 0, 1) := by decide +kernel
theorem d_Own_happens_112 : decode prog_14_method_11_code 112 = .ok (.getfield 49, 3) := by decide +kernel
theorem d_Own_happens_115 : decode prog_14_method_11_code 115 = .ok (.iload 4, 2) := by decide +kernel
theorem d_Own_happens_117 : decode prog_14_method_11_code 117 = .ok (.aload_n 0, 1) := by decide +kernel
theorem d_Own_happens_118 : decode prog_14_method_11_code 118 = .ok (.getfield 61, 3) := by decide +kernel
theorem d_Own_happens_121 : decode prog_14_method_11_code 121 = .ok (.iload 4, 2) := by decide +kernel
theorem d_Own_happens_123 : decode prog_14_method_11_code 123 = .ok (.baload, 1) := by decide +kernel
theorem d_Own_happens_124 : decode prog_14_method_11_code 124 = .ok (.ifCond .eq 7, 3) := by decide +kernel
theorem d_Own_happens_127 : decode prog_14_method_11_code 127 = .ok (.iconst 2, 1) := by decide +kernel
theorem d_Own_happens_128 : decode prog_14_method_11_code 128 = .ok (.goto 4, 3) := by decide +kernel
theorem d_Own_happens_131 : decode prog_14_method_11_code 131 = .ok (.iconst 1, 1) := by decide +kernel
theorem d_Own_happens_132 : decode prog_14_method_11_code 132 = .ok (.iastore, 1) := by decide +kernel
theorem d_Own_happens_133 : decode prog_14_method_11_code 133 = .ok (.aload_n 0, 1) := by decide +kernel
theorem d_Own_happens_134 : decode prog_14_method_11_code 134 = .ok (.getfield 52, 3) := by decide +kernel
theorem d_Own_happens_137 : decode prog_14_method_11_code 137 = .ok (.iload 4, 2) := by decide +kernel
theorem d_Own_happens_139 : decode prog_14_method_11_code 139 = .ok (.aload_n 0, 1) := by decide +kernel
theorem d_Own_happens_140 : decode prog_14_method_11_code 140 = .ok (.getfield 88, 3) := by decide +kernel
theorem d_Own_happens_143 : decode prog_14_method_11_code 143 = .ok (.iastore, 1) := by decide +kernel
theorem d_Own_happens_144 : decode prog_14_method_11_code 144 = .ok (.iinc 3 1, 3) := by decide +kernel
theorem d_Own_happens_147 : decode prog_14_method_11_code 147 = .ok (.iinc 4 1, 3) := by decide +kernel
theorem d_Own_happens_150 : decode prog_14_method_11_code 150 = .ok (.goto (-107), 3) := by decide +kernel
theorem d_Own_happens_153 : decode prog_14_method_11_code 153 = .ok (.iload_n 3, 1) := by decide +kernel
theorem d_Own_happens_154 : decode prog_14_method_11_code 154 = .ok (.ireturn, 1) := by decide +kernel
theorem d_Own_has_0 : decode prog_14_method_8_code 0 = .ok (.iconst 0, 1) := by decide +kernel
theorem d_Own_has_1 : decode prog_14_method_8_code 1 = .ok (.istore 4, 2) := by decide +kernel
theorem d_Own_has_3 : decode prog_14_method_8_code 3 = .ok (.iload 4, 2) := by decide +kernel
theorem d_Own_has_5 : decode prog_14_method_8_code 5 = .ok (.aload_n 0, 1) := by decide +kernel
theorem d_Own_has_6 : decode prog_14_method_8_code 6 = .ok (.getfield 106, 3) := by decide +kernel
theorem d_Own_has_9 : decode prog_14_method_8_code 9 = .ok (.if_icmp .ge 38, 3) := by decide +kernel
theorem d_Own_has_12 : decode prog_14_method_8_code 12 = .ok (.aload_n 0, 1) := by decide +kernel
theorem d_Own_has_13 : decode prog_14_method_8_code 13 = .ok (.getfield 65, 3) := by decide +kernel
theorem d_Own_has_16 : decode prog_14_method_8_code 16 = .ok (.iload 4, 2) := by decide +kernel
theorem d_Own_has_18 : decode prog_14_method_8_code 18 = .ok (.iaload, 1) := by decide +kernel
theorem d_Own_has_19 : decode prog_14_method_8_code 19 = .ok (.bipush 6, 2) := by decide +kernel
theorem d_Own_has_21 : decode prog_14_method_8_code 21 = .ok (.iload_n 1, 1) := by decide +kernel
theorem d_Own_has_22 : decode prog_14_method_8_code 22 = .ok (.imul, 1) := by decide +kernel
theorem d_Own_has_23 : decode prog_14_method_8_code 23 = .ok (.iload_n 2, 1) := by decide +kernel
theorem d_Own_has_24 : decode prog_14_method_8_code 24 = .ok (.iadd, 1) := by decide +kernel
theorem d_Own_has_25 : decode prog_14_method_8_code 25 = .ok (.if_icmp .ne 16, 3) := by decide +kernel
theorem d_Own_has_28 : decode prog_14_method_8_code 28 = .ok (.aload_n 0, 1) := by decide +kernel
theorem d_Own_has_29 : decode prog_14_method_8_code 29 = .ok (.getfield 68, 3) := by decide +kernel
theorem d_Own_has_32 : decode prog_14_method_8_code 32 = .ok (.iload 4, 2) := by decide +kernel
theorem d_Own_has_34 : decode prog_14_method_8_code 34 = .ok (.iaload, 1) := by decide +kernel
theorem d_Own_has_35 : decode prog_14_method_8_code 35 = .ok (.iload_n 3, 1) := by decide +kernel
theorem d_Own_has_36 : decode prog_14_method_8_code 36 = .ok (.if_icmp .ne 5, 3) := by decide +kernel
theorem d_Own_has_39 : decode prog_14_method_8_code 39 = .ok (.iconst 1, 1) := by decide +kernel
theorem d_Own_has_40 : decode prog_14_method_8_code 40 = .ok (.ireturn, 1) := by decide +kernel
theorem d_Own_has_41 : decode prog_14_method_8_code 41 = .ok (.iinc 4 1, 3) := by decide +kernel
theorem d_Own_has_44 : decode prog_14_method_8_code 44 = .ok (.goto (-41), 3) := by decide +kernel
theorem d_Own_has_47 : decode prog_14_method_8_code 47 = .ok (.iconst 0, 1) := by decide +kernel
theorem d_Own_has_48 : decode prog_14_method_8_code 48 = .ok (.ireturn, 1) := by decide +kernel
theorem d_Own_idle_0 : decode prog_14_method_5_code 0 = .ok (.iconst 0, 1) := by decide +kernel
theorem d_Own_idle_1 : decode prog_14_method_5_code 1 = .ok (.istore_n 1, 1) := by decide +kernel
theorem d_Own_idle_2 : decode prog_14_method_5_code 2 = .ok (.iload_n 1, 1) := by decide +kernel
theorem d_Own_idle_3 : decode prog_14_method_5_code 3 = .ok (.aload_n 0, 1) := by decide +kernel
theorem d_Own_idle_4 : decode prog_14_method_5_code 4 = .ok (.getfield 100, 3) := by decide +kernel
theorem d_Own_idle_7 : decode prog_14_method_5_code 7 = .ok (.if_icmp .ge 18, 3) := by decide +kernel
theorem d_Own_idle_10 : decode prog_14_method_5_code 10 = .ok (.aload_n 0, 1) := by decide +kernel
theorem d_Own_idle_11 : decode prog_14_method_5_code 11 = .ok (.getfield 19, 3) := by decide +kernel
theorem d_Own_idle_14 : decode prog_14_method_5_code 14 = .ok (.iload_n 1, 1) := by decide +kernel
theorem d_Own_idle_15 : decode prog_14_method_5_code 15 = .ok (.iaload, 1) := by decide +kernel
theorem d_Own_idle_16 : decode prog_14_method_5_code 16 = .ok (.ifCond .le 9, 3) := by decide +kernel
theorem d_Own_idle_19 : decode prog_14_method_5_code 19 = .ok (.iinc 1 1, 3) := by decide +kernel
theorem d_Own_idle_22 : decode prog_14_method_5_code 22 = .ok (.goto (-20), 3) := by decide +kernel
theorem d_Own_idle_25 : decode prog_14_method_5_code 25 = .ok (.iload_n 1, 1) := by decide +kernel
theorem d_Own_idle_26 : decode prog_14_method_5_code 26 = .ok (.ireturn, 1) := by decide +kernel
theorem d_Own_idles_0 : decode prog_14_method_6_code 0 = .ok (.iconst 0, 1) := by decide +kernel
theorem d_Own_idles_1 : decode prog_14_method_6_code 1 = .ok (.istore_n 1, 1) := by decide +kernel
theorem d_Own_idles_2 : decode prog_14_method_6_code 2 = .ok (.iconst 0, 1) := by decide +kernel
theorem d_Own_idles_3 : decode prog_14_method_6_code 3 = .ok (.istore_n 2, 1) := by decide +kernel
theorem d_Own_idles_4 : decode prog_14_method_6_code 4 = .ok (.iload_n 2, 1) := by decide +kernel
theorem d_Own_idles_5 : decode prog_14_method_6_code 5 = .ok (.aload_n 0, 1) := by decide +kernel
theorem d_Own_idles_6 : decode prog_14_method_6_code 6 = .ok (.getfield 100, 3) := by decide +kernel
theorem d_Own_idles_9 : decode prog_14_method_6_code 9 = .ok (.if_icmp .ge 26, 3) := by decide +kernel
theorem d_Own_idles_12 : decode prog_14_method_6_code 12 = .ok (.iload_n 1, 1) := by decide +kernel
theorem d_Own_idles_13 : decode prog_14_method_6_code 13 = .ok (.aload_n 0, 1) := by decide +kernel
theorem d_Own_idles_14 : decode prog_14_method_6_code 14 = .ok (.getfield 19, 3) := by decide +kernel
theorem d_Own_idles_17 : decode prog_14_method_6_code 17 = .ok (.iload_n 2, 1) := by decide +kernel
theorem d_Own_idles_18 : decode prog_14_method_6_code 18 = .ok (.iaload, 1) := by decide +kernel
theorem d_Own_idles_19 : decode prog_14_method_6_code 19 = .ok (.ifCond .ne 7, 3) := by decide +kernel
theorem d_Own_idles_22 : decode prog_14_method_6_code 22 = .ok (.iconst 1, 1) := by decide +kernel
theorem d_Own_idles_23 : decode prog_14_method_6_code 23 = .ok (.goto 4, 3) := by decide +kernel
theorem d_Own_idles_26 : decode prog_14_method_6_code 26 = .ok (.iconst 0, 1) := by decide +kernel
theorem d_Own_idles_27 : decode prog_14_method_6_code 27 = .ok (.iadd, 1) := by decide +kernel
theorem d_Own_idles_28 : decode prog_14_method_6_code 28 = .ok (.istore_n 1, 1) := by decide +kernel
theorem d_Own_idles_29 : decode prog_14_method_6_code 29 = .ok (.iinc 2 1, 3) := by decide +kernel
theorem d_Own_idles_32 : decode prog_14_method_6_code 32 = .ok (.goto (-28), 3) := by decide +kernel
theorem d_Own_idles_35 : decode prog_14_method_6_code 35 = .ok (.iload_n 1, 1) := by decide +kernel
theorem d_Own_idles_36 : decode prog_14_method_6_code 36 = .ok (.ireturn, 1) := by decide +kernel
theorem d_Own_many_0 : decode prog_14_method_10_code 0 = .ok (.iconst 0, 1) := by decide +kernel
theorem d_Own_many_1 : decode prog_14_method_10_code 1 = .ok (.istore_n 2, 1) := by decide +kernel
theorem d_Own_many_2 : decode prog_14_method_10_code 2 = .ok (.iconst 0, 1) := by decide +kernel
theorem d_Own_many_3 : decode prog_14_method_10_code 3 = .ok (.istore_n 3, 1) := by decide +kernel
theorem d_Own_many_4 : decode prog_14_method_10_code 4 = .ok (.iload_n 3, 1) := by decide +kernel
theorem d_Own_many_5 : decode prog_14_method_10_code 5 = .ok (.aload_n 0, 1) := by decide +kernel
theorem d_Own_many_6 : decode prog_14_method_10_code 6 = .ok (.getfield 103, 3) := by decide +kernel
theorem d_Own_many_9 : decode prog_14_method_10_code 9 = .ok (.if_icmp .ge 27, 3) := by decide +kernel
theorem d_Own_many_12 : decode prog_14_method_10_code 12 = .ok (.iload_n 2, 1) := by decide +kernel
theorem d_Own_many_13 : decode prog_14_method_10_code 13 = .ok (.aload_n 0, 1) := by decide +kernel
theorem d_Own_many_14 : decode prog_14_method_10_code 14 = .ok (.getfield 49, 3) := by decide +kernel
theorem d_Own_many_17 : decode prog_14_method_10_code 17 = .ok (.iload_n 3, 1) := by decide +kernel
theorem d_Own_many_18 : decode prog_14_method_10_code 18 = .ok (.iaload, 1) := by decide +kernel
theorem d_Own_many_19 : decode prog_14_method_10_code 19 = .ok (.iload_n 1, 1) := by decide +kernel
theorem d_Own_many_20 : decode prog_14_method_10_code 20 = .ok (.if_icmp .ne 7, 3) := by decide +kernel
theorem d_Own_many_23 : decode prog_14_method_10_code 23 = .ok (.iconst 1, 1) := by decide +kernel
theorem d_Own_many_24 : decode prog_14_method_10_code 24 = .ok (.goto 4, 3) := by decide +kernel
theorem d_Own_many_27 : decode prog_14_method_10_code 27 = .ok (.iconst 0, 1) := by decide +kernel
theorem d_Own_many_28 : decode prog_14_method_10_code 28 = .ok (.iadd, 1) := by decide +kernel
theorem d_Own_many_29 : decode prog_14_method_10_code 29 = .ok (.istore_n 2, 1) := by decide +kernel
theorem d_Own_many_30 : decode prog_14_method_10_code 30 = .ok (.iinc 3 1, 3) := by decide +kernel
theorem d_Own_many_33 : decode prog_14_method_10_code 33 = .ok (.goto (-29), 3) := by decide +kernel
theorem d_Own_many_36 : decode prog_14_method_10_code 36 = .ok (.iload_n 2, 1) := by decide +kernel
theorem d_Own_many_37 : decode prog_14_method_10_code 37 = .ok (.ireturn, 1) := by decide +kernel
theorem d_Own_passes_0 : decode prog_14_method_12_code 0 = .ok (.aload_n 0, 1) := by decide +kernel
theorem d_Own_passes_1 : decode prog_14_method_12_code 1 = .ok (.dup, 1) := by decide +kernel
theorem d_Own_passes_2 : decode prog_14_method_12_code 2 = .ok (.getfield 88, 3) := by decide +kernel
theorem d_Own_passes_5 : decode prog_14_method_12_code 5 = .ok (.iconst 1, 1) := by decide +kernel
theorem d_Own_passes_6 : decode prog_14_method_12_code 6 = .ok (.iadd, 1) := by decide +kernel
theorem d_Own_passes_7 : decode prog_14_method_12_code 7 = .ok (.putfield 88, 3) := by decide +kernel
theorem d_Own_passes_10 : decode prog_14_method_12_code 10 = .ok (.iconst 0, 1) := by decide +kernel
theorem d_Own_passes_11 : decode prog_14_method_12_code 11 = .ok (.istore_n 1, 1) := by decide +kernel
theorem d_Own_passes_12 : decode prog_14_method_12_code 12 = .ok (.iload_n 1, 1) := by decide +kernel
theorem d_Own_passes_13 : decode prog_14_method_12_code 13 = .ok (.aload_n 0, 1) := by decide +kernel
theorem d_Own_passes_14 : decode prog_14_method_12_code 14 = .ok (.getfield 103, 3) := by decide +kernel
theorem d_Own_passes_17 : decode prog_14_method_12_code 17 = .ok (.if_icmp .ge 64, 3) := by decide +kernel
theorem d_Own_passes_20 : decode prog_14_method_12_code 20 = .ok (.aload_n 0, 1) := by decide +kernel
theorem d_Own_passes_21 : decode prog_14_method_12_code 21 = .ok (.getfield 49, 3) := by decide +kernel
theorem d_Own_passes_24 : decode prog_14_method_12_code 24 = .ok (.iload_n 1, 1) := by decide +kernel
theorem d_Own_passes_25 : decode prog_14_method_12_code 25 = .ok (.iaload, 1) := by decide +kernel
theorem d_Own_passes_26 : decode prog_14_method_12_code 26 = .ok (.ifCond .ne 49, 3) := by decide +kernel
theorem d_Own_passes_29 : decode prog_14_method_12_code 29 = .ok (.aload_n 0, 1) := by decide +kernel
theorem d_Own_passes_30 : decode prog_14_method_12_code 30 = .ok (.getfield 88, 3) := by decide +kernel
theorem d_Own_passes_33 : decode prog_14_method_12_code 33 = .ok (.aload_n 0, 1) := by decide +kernel
theorem d_Own_passes_34 : decode prog_14_method_12_code 34 = .ok (.getfield 43, 3) := by decide +kernel
theorem d_Own_passes_37 : decode prog_14_method_12_code 37 = .ok (.iload_n 1, 1) := by decide +kernel
theorem d_Own_passes_38 : decode prog_14_method_12_code 38 = .ok (.iaload, 1) := by decide +kernel
theorem d_Own_passes_39 : decode prog_14_method_12_code 39 = .ok (.if_icmp .gt 6, 3) := by decide +kernel
theorem d_Own_passes_42 : decode prog_14_method_12_code 42 = .ok (.goto 33, 3) := by decide +kernel
theorem d_Own_passes_45 : decode prog_14_method_12_code 45 = .ok (.aload_n 0, 1) := by decide +kernel
theorem d_Own_passes_46 : decode prog_14_method_12_code 46 = .ok (.getfield 49, 3) := by decide +kernel
theorem d_Own_passes_49 : decode prog_14_method_12_code 49 = .ok (.iload_n 1, 1) := by decide +kernel
theorem d_Own_passes_50 : decode prog_14_method_12_code 50 = .ok (.aload_n 0, 1) := by decide +kernel
theorem d_Own_passes_51 : decode prog_14_method_12_code 51 = .ok (.getfield 61, 3) := by decide +kernel
theorem d_Own_passes_54 : decode prog_14_method_12_code 54 = .ok (.iload_n 1, 1) := by decide +kernel
theorem d_Own_passes_55 : decode prog_14_method_12_code 55 = .ok (.baload, 1) := by decide +kernel
theorem d_Own_passes_56 : decode prog_14_method_12_code 56 = .ok (.ifCond .eq 7, 3) := by decide +kernel
theorem d_Own_passes_59 : decode prog_14_method_12_code 59 = .ok (.iconst 1, 1) := by decide +kernel
theorem d_Own_passes_60 : decode prog_14_method_12_code 60 = .ok (.goto 4, 3) := by decide +kernel
theorem d_Own_passes_63 : decode prog_14_method_12_code 63 = .ok (.iconst 2, 1) := by decide +kernel
theorem d_Own_passes_64 : decode prog_14_method_12_code 64 = .ok (.iastore, 1) := by decide +kernel
theorem d_Own_passes_65 : decode prog_14_method_12_code 65 = .ok (.aload_n 0, 1) := by decide +kernel
theorem d_Own_passes_66 : decode prog_14_method_12_code 66 = .ok (.getfield 52, 3) := by decide +kernel
theorem d_Own_passes_69 : decode prog_14_method_12_code 69 = .ok (.iload_n 1, 1) := by decide +kernel
theorem d_Own_passes_70 : decode prog_14_method_12_code 70 = .ok (.aload_n 0, 1) := by decide +kernel
theorem d_Own_passes_71 : decode prog_14_method_12_code 71 = .ok (.getfield 88, 3) := by decide +kernel
theorem d_Own_passes_74 : decode prog_14_method_12_code 74 = .ok (.iastore, 1) := by decide +kernel
theorem d_Own_passes_75 : decode prog_14_method_12_code 75 = .ok (.iinc 1 1, 3) := by decide +kernel
theorem d_Own_passes_78 : decode prog_14_method_12_code 78 = .ok (.goto (-66), 3) := by decide +kernel
theorem d_Own_passes_81 : decode prog_14_method_12_code 81 = .ok (.iconst 0, 1) := by decide +kernel
theorem d_Own_passes_82 : decode prog_14_method_12_code 82 = .ok (.istore_n 1, 1) := by decide +kernel
theorem d_Own_passes_83 : decode prog_14_method_12_code 83 = .ok (.iload_n 1, 1) := by decide +kernel
theorem d_Own_passes_84 : decode prog_14_method_12_code 84 = .ok (.aload_n 0, 1) := by decide +kernel
theorem d_Own_passes_85 : decode prog_14_method_12_code 85 = .ok (.getfield 100, 3) := by decide +kernel
theorem d_Own_passes_88 : decode prog_14_method_12_code 88 = .ok (.if_icmp .ge 110, 3) := by decide +kernel
theorem d_Own_passes_91 : decode prog_14_method_12_code 91 = .ok (.aload_n 0, 1) := by decide +kernel
theorem d_Own_passes_92 : decode prog_14_method_12_code 92 = .ok (.getfield 19, 3) := by decide +kernel
theorem d_Own_passes_95 : decode prog_14_method_12_code 95 = .ok (.iload_n 1, 1) := by decide +kernel
theorem d_Own_passes_96 : decode prog_14_method_12_code 96 = .ok (.iaload, 1) := by decide +kernel
theorem d_Own_passes_97 : decode prog_14_method_12_code 97 = .ok (.iconst 1, 1) := by decide +kernel
theorem d_Own_passes_98 : decode prog_14_method_12_code 98 = .ok (.if_icmp .ne 7, 3) := by decide +kernel
theorem d_Own_passes_101 : decode prog_14_method_12_code 101 = .ok (.iconst 1, 1) := by decide +kernel
theorem d_Own_passes_102 : decode prog_14_method_12_code 102 = .ok (.goto 4, 3) := by decide +kernel
theorem d_Own_passes_105 : decode prog_14_method_12_code 105 = .ok (.iconst 0, 1) := by decide +kernel
theorem d_Own_passes_106 : decode prog_14_method_12_code 106 = .ok (.istore_n 2, 1) := by decide +kernel
theorem d_Own_passes_107 : decode prog_14_method_12_code 107 = .ok (.aload_n 0, 1) := by decide +kernel
theorem d_Own_passes_108 : decode prog_14_method_12_code 108 = .ok (.getfield 19, 3) := by decide +kernel
theorem d_Own_passes_111 : decode prog_14_method_12_code 111 = .ok (.iload_n 1, 1) := by decide +kernel
theorem d_Own_passes_112 : decode prog_14_method_12_code 112 = .ok (.dup2, 1) := by decide +kernel
theorem d_Own_passes_113 : decode prog_14_method_12_code 113 = .ok (.iaload, 1) := by decide +kernel
theorem d_Own_passes_114 : decode prog_14_method_12_code 114 = .ok (.aload_n 0, 1) := by decide +kernel
theorem d_Own_passes_115 : decode prog_14_method_12_code 115 = .ok (.getfield 19, 3) := by decide +kernel
theorem d_Own_passes_118 : decode prog_14_method_12_code 118 = .ok (.iload_n 1, 1) := by decide +kernel
theorem d_Own_passes_119 : decode prog_14_method_12_code 119 = .ok (.iaload, 1) := by decide +kernel
theorem d_Own_passes_120 : decode prog_14_method_12_code 120 = .ok (.ifCond .le 7, 3) := by decide +kernel
theorem d_Own_passes_123 : decode prog_14_method_12_code 123 = .ok (.iconst 1, 1) := by decide +kernel
theorem d_Own_passes_124 : decode prog_14_method_12_code 124 = .ok (.goto 4, 3) := by decide +kernel
theorem d_Own_passes_127 : decode prog_14_method_12_code 127 = .ok (.iconst 0, 1) := by decide +kernel
theorem d_Own_passes_128 : decode prog_14_method_12_code 128 = .ok (.isub, 1) := by decide +kernel
theorem d_Own_passes_129 : decode prog_14_method_12_code 129 = .ok (.iastore, 1) := by decide +kernel
theorem d_Own_passes_130 : decode prog_14_method_12_code 130 = .ok (.iload_n 2, 1) := by decide +kernel
theorem d_Own_passes_131 : decode prog_14_method_12_code 131 = .ok (.ifCond .eq 61, 3) := by decide +kernel
theorem d_Own_passes_134 : decode prog_14_method_12_code 134 = .ok (.aload_n 0, 1) := by decide +kernel
theorem d_Own_passes_135 : decode prog_14_method_12_code 135 = .ok (.getfield 25, 3) := by decide +kernel
theorem d_Own_passes_138 : decode prog_14_method_12_code 138 = .ok (.iload_n 1, 1) := by decide +kernel
theorem d_Own_passes_139 : decode prog_14_method_12_code 139 = .ok (.iaload, 1) := by decide +kernel
theorem d_Own_passes_140 : decode prog_14_method_12_code 140 = .ok (.ifCond .ge 6, 3) := by decide +kernel
theorem d_Own_passes_143 : decode prog_14_method_12_code 143 = .ok (.goto 49, 3) := by decide +kernel
theorem d_Own_passes_146 : decode prog_14_method_12_code 146 = .ok (.aload_n 0, 1) := by decide +kernel
theorem d_Own_passes_147 : decode prog_14_method_12_code 147 = .ok (.getfield 7, 3) := by decide +kernel
theorem d_Own_passes_150 : decode prog_14_method_12_code 150 = .ok (.aload_n 0, 1) := by decide +kernel
theorem d_Own_passes_151 : decode prog_14_method_12_code 151 = .ok (.getfield 25, 3) := by decide +kernel
theorem d_Own_passes_154 : decode prog_14_method_12_code 154 = .ok (.iload_n 1, 1) := by decide +kernel
theorem d_Own_passes_155 : decode prog_14_method_12_code 155 = .ok (.iaload, 1) := by decide +kernel
theorem d_Own_passes_156 : decode prog_14_method_12_code 156 = .ok (.dup2, 1) := by decide +kernel
theorem d_Own_passes_157 : decode prog_14_method_12_code 157 = .ok (.iaload, 1) := by decide +kernel
theorem d_Own_passes_158 : decode prog_14_method_12_code 158 = .ok (.aload_n 0, 1) := by decide +kernel
theorem d_Own_passes_159 : decode prog_14_method_12_code 159 = .ok (.getfield 22, 3) := by decide +kernel
theorem d_Own_passes_162 : decode prog_14_method_12_code 162 = .ok (.iload_n 1, 1) := by decide +kernel
theorem d_Own_passes_163 : decode prog_14_method_12_code 163 = .ok (.iaload, 1) := by decide +kernel
theorem d_Own_passes_164 : decode prog_14_method_12_code 164 = .ok (.iadd, 1) := by decide +kernel
theorem d_Own_passes_165 : decode prog_14_method_12_code 165 = .ok (.iastore, 1) := by decide +kernel
theorem d_Own_passes_166 : decode prog_14_method_12_code 166 = .ok (.aload_n 0, 1) := by decide +kernel
theorem d_Own_passes_167 : decode prog_14_method_12_code 167 = .ok (.getfield 22, 3) := by decide +kernel
theorem d_Own_passes_170 : decode prog_14_method_12_code 170 = .ok (.iload_n 1, 1) := by decide +kernel
theorem d_Own_passes_171 : decode prog_14_method_12_code 171 = .ok (.iconst 0, 1) := by decide +kernel
theorem d_Own_passes_172 : decode prog_14_method_12_code 172 = .ok (.iastore, 1) := by decide +kernel
theorem d_Own_passes_173 : decode prog_14_method_12_code 173 = .ok (.aload_n 0, 1) := by decide +kernel
theorem d_Own_passes_174 : decode prog_14_method_12_code 174 = .ok (.getfield 25, 3) := by decide +kernel
theorem d_Own_passes_177 : decode prog_14_method_12_code 177 = .ok (.iload_n 1, 1) := by decide +kernel
theorem d_Own_passes_178 : decode prog_14_method_12_code 178 = .ok (.iconst (-1), 1) := by decide +kernel
theorem d_Own_passes_179 : decode prog_14_method_12_code 179 = .ok (.iastore, 1) := by decide +kernel
theorem d_Own_passes_180 : decode prog_14_method_12_code 180 = .ok (.aload_n 0, 1) := by decide +kernel
theorem d_Own_passes_181 : decode prog_14_method_12_code 181 = .ok (.getfield 19, 3) := by decide +kernel
theorem d_Own_passes_184 : decode prog_14_method_12_code 184 = .ok (.iload_n 1, 1) := by decide +kernel
theorem d_Own_passes_185 : decode prog_14_method_12_code 185 = .ok (.aload_n 0, 1) := by decide +kernel
theorem d_Own_passes_186 : decode prog_14_method_12_code 186 = .ok (.getfield 28, 3) := by decide +kernel
theorem d_Own_passes_189 : decode prog_14_method_12_code 189 = .ok (.iload_n 1, 1) := by decide +kernel
theorem d_Own_passes_190 : decode prog_14_method_12_code 190 = .ok (.iaload, 1) := by decide +kernel
theorem d_Own_passes_191 : decode prog_14_method_12_code 191 = .ok (.iastore, 1) := by decide +kernel
theorem d_Own_passes_192 : decode prog_14_method_12_code 192 = .ok (.iinc 1 1, 3) := by decide +kernel
theorem d_Own_passes_195 : decode prog_14_method_12_code 195 = .ok (.goto (-112), 3) := by decide +kernel
theorem d_Own_passes_198 : decode prog_14_method_12_code 198 = .ok (.iconst 0, 1) := by decide +kernel
theorem d_Own_passes_199 : decode prog_14_method_12_code 199 = .ok (.istore_n 1, 1) := by decide +kernel
theorem d_Own_passes_200 : decode prog_14_method_12_code 200 = .ok (.iload_n 1, 1) := by decide +kernel
theorem d_Own_passes_201 : decode prog_14_method_12_code 201 = .ok (.aload_n 0, 1) := by decide +kernel
theorem d_Own_passes_202 : decode prog_14_method_12_code 202 = .ok (.getfield 76, 3) := by decide +kernel
theorem d_Own_passes_205 : decode prog_14_method_12_code 205 = .ok (.if_icmp .ge 251, 3) := by decide +kernel
theorem d_Own_passes_208 : decode prog_14_method_12_code 208 = .ok (.aload_n 0, 1) := by decide +kernel
theorem d_Own_passes_209 : decode prog_14_method_12_code 209 = .ok (.getfield 109, 3) := by decide +kernel
theorem d_Own_passes_212 : decode prog_14_method_12_code 212 = .ok (.ifCond .le 244, 3) := by decide +kernel
theorem d_Own_passes_215 : decode prog_14_method_12_code 215 = .ok (.aload_n 0, 1) := by decide +kernel
theorem d_Own_passes_216 : decode prog_14_method_12_code 216 = .ok (.getfield 58, 3) := by decide +kernel
theorem d_Own_passes_219 : decode prog_14_method_12_code 219 = .ok (.iconst 0, 1) := by decide +kernel
theorem d_Own_passes_220 : decode prog_14_method_12_code 220 = .ok (.iaload, 1) := by decide +kernel
theorem d_Own_passes_221 : decode prog_14_method_12_code 221 = .ok (.istore_n 2, 1) := by decide +kernel
theorem d_Own_passes_222 : decode prog_14_method_12_code 222 = .ok (.aload_n 0, 1) := by decide +kernel
theorem d_Own_passes_223 : decode prog_14_method_12_code 223 = .ok (.iload_n 2, 1) := by decide +kernel
theorem d_Own_passes_224 : decode prog_14_method_12_code 224 = .ok (.invokevirtual 122, 3) := by decide +kernel
theorem d_Own_passes_227 : decode prog_14_method_12_code 227 = .ok (.istore_n 3, 1) := by decide +kernel
theorem d_Own_passes_228 : decode prog_14_method_12_code 228 = .ok (.aload_n 0, 1) := by decide +kernel
theorem d_Own_passes_229 : decode prog_14_method_12_code 229 = .ok (.invokevirtual 125, 3) := by decide +kernel
theorem d_Own_passes_232 : decode prog_14_method_12_code 232 = .ok (.istore 4, 2) := by decide +kernel
theorem d_Own_passes_234 : decode prog_14_method_12_code 234 = .ok (.iload_n 3, 1) := by decide +kernel
theorem d_Own_passes_235 : decode prog_14_method_12_code 235 = .ok (.iconst 1, 1) := by decide +kernel
theorem d_Own_passes_236 : decode prog_14_method_12_code 236 = .ok (.if_icmp .ne 13, 3) := by decide +kernel
theorem d_Own_passes_239 : decode prog_14_method_12_code 239 = .ok (.iload 4, 2) := by decide +kernel
theorem d_Own_passes_241 : decode prog_14_method_12_code 241 = .ok (.aload_n 0, 1) := by decide +kernel
theorem d_Own_passes_242 : decode prog_14_method_12_code 242 = .ok (.getfield 100, 3) := by decide +kernel
theorem d_Own_passes_245 : decode prog_14_method_12_code 245 = .ok (.if_icmp .ne 4, 3) := by decide +kernel
theorem d_Own_passes_248 : decode prog_14_method_12_code 248 = .ok (.return_, 1) := by decide +kernel
theorem d_Own_passes_249 : decode prog_14_method_12_code 249 = .ok (.aload_n 0, 1) := by decide +kernel
theorem d_Own_passes_250 : decode prog_14_method_12_code 250 = .ok (.getfield 55, 3) := by decide +kernel
theorem d_Own_passes_253 : decode prog_14_method_12_code 253 = .ok (.iload_n 2, 1) := by decide +kernel
theorem d_Own_passes_254 : decode prog_14_method_12_code 254 = .ok (.iload_n 3, 1) := by decide +kernel
theorem d_Own_passes_255 : decode prog_14_method_12_code 255 = .ok (.iastore, 1) := by decide +kernel
theorem d_Own_passes_256 : decode prog_14_method_12_code 256 = .ok (.aload_n 0, 1) := by decide +kernel
theorem d_Own_passes_257 : decode prog_14_method_12_code 257 = .ok (.dup, 1) := by decide +kernel
theorem d_Own_passes_258 : decode prog_14_method_12_code 258 = .ok (.getfield 112, 3) := by decide +kernel
theorem d_Own_passes_261 : decode prog_14_method_12_code 261 = .ok (.iconst 1, 1) := by decide +kernel
theorem d_Own_passes_262 : decode prog_14_method_12_code 262 = .ok (.iadd, 1) := by decide +kernel
theorem d_Own_passes_263 : decode prog_14_method_12_code 263 = .ok (.putfield 112, 3) := by decide +kernel
theorem d_Own_passes_266 : decode prog_14_method_12_code 266 = .ok (.aload_n 0, 1) := by decide +kernel
theorem d_Own_passes_267 : decode prog_14_method_12_code 267 = .ok (.dup, 1) := by decide +kernel
theorem d_Own_passes_268 : decode prog_14_method_12_code 268 = .ok (.getfield 109, 3) := by decide +kernel
theorem d_Own_passes_271 : decode prog_14_method_12_code 271 = .ok (.iconst 1, 1) := by decide +kernel
theorem d_Own_passes_272 : decode prog_14_method_12_code 272 = .ok (.isub, 1) := by decide +kernel
theorem d_Own_passes_273 : decode prog_14_method_12_code 273 = .ok (.putfield 109, 3) := by decide +kernel
theorem d_Own_passes_276 : decode prog_14_method_12_code 276 = .ok (.iconst 0, 1) := by decide +kernel
theorem d_Own_passes_277 : decode prog_14_method_12_code 277 = .ok (.istore 5, 2) := by decide +kernel
theorem d_Own_passes_279 : decode prog_14_method_12_code 279 = .ok (.iload 5, 2) := by decide +kernel
theorem d_Own_passes_281 : decode prog_14_method_12_code 281 = .ok (.aload_n 0, 1) := by decide +kernel
theorem d_Own_passes_282 : decode prog_14_method_12_code 282 = .ok (.getfield 109, 3) := by decide +kernel
theorem d_Own_passes_285 : decode prog_14_method_12_code 285 = .ok (.if_icmp .ge 25, 3) := by decide +kernel
theorem d_Own_passes_288 : decode prog_14_method_12_code 288 = .ok (.aload_n 0, 1) := by decide +kernel
theorem d_Own_passes_289 : decode prog_14_method_12_code 289 = .ok (.getfield 58, 3) := by decide +kernel
theorem d_Own_passes_292 : decode prog_14_method_12_code 292 = .ok (.iload 5, 2) := by decide +kernel
theorem d_Own_passes_294 : decode prog_14_method_12_code 294 = .ok (.aload_n 0, 1) := by decide +kernel
theorem d_Own_passes_295 : decode prog_14_method_12_code 295 = .ok (.getfield 58, 3) := by decide +kernel
theorem d_Own_passes_298 : decode prog_14_method_12_code 298 = .ok (.iload 5, 2) := by decide +kernel
theorem d_Own_passes_300 : decode prog_14_method_12_code 300 = .ok (.iconst 1, 1) := by decide +kernel
theorem d_Own_passes_301 : decode prog_14_method_12_code 301 = .ok (.iadd, 1) := by decide +kernel
theorem d_Own_passes_302 : decode prog_14_method_12_code 302 = .ok (.iaload, 1) := by decide +kernel
theorem d_Own_passes_303 : decode prog_14_method_12_code 303 = .ok (.iastore, 1) := by decide +kernel
theorem d_Own_passes_304 : decode prog_14_method_12_code 304 = .ok (.iinc 5 1, 3) := by decide +kernel
theorem d_Own_passes_307 : decode prog_14_method_12_code 307 = .ok (.goto (-28), 3) := by decide +kernel
theorem d_Own_passes_310 : decode prog_14_method_12_code 310 = .ok (.iload_n 3, 1) := by decide +kernel
theorem d_Own_passes_311 : decode prog_14_method_12_code 311 = .ok (.iconst 1, 1) := by decide +kernel
theorem d_Own_passes_312 : decode prog_14_method_12_code 312 = .ok (.if_icmp .eq 6, 3) := by decide +kernel
theorem d_Own_passes_315 : decode prog_14_method_12_code 315 = .ok (.goto 135, 3) := by decide +kernel
theorem d_Own_passes_318 : decode prog_14_method_12_code 318 = .ok (.aload_n 0, 1) := by decide +kernel
theorem d_Own_passes_319 : decode prog_14_method_12_code 319 = .ok (.getfield 28, 3) := by decide +kernel
theorem d_Own_passes_322 : decode prog_14_method_12_code 322 = .ok (.iload 4, 2) := by decide +kernel
theorem d_Own_passes_324 : decode prog_14_method_12_code 324 = .ok (.aload_n 0, 1) := by decide +kernel
theorem d_Own_passes_325 : decode prog_14_method_12_code 325 = .ok (.getfield 13, 3) := by decide +kernel
theorem d_Own_passes_328 : decode prog_14_method_12_code 328 = .ok (.aload_n 0, 1) := by decide +kernel
theorem d_Own_passes_329 : decode prog_14_method_12_code 329 = .ok (.getfield 31, 3) := by decide +kernel
theorem d_Own_passes_332 : decode prog_14_method_12_code 332 = .ok (.iload_n 2, 1) := by decide +kernel
theorem d_Own_passes_333 : decode prog_14_method_12_code 333 = .ok (.iaload, 1) := by decide +kernel
theorem d_Own_passes_334 : decode prog_14_method_12_code 334 = .ok (.iaload, 1) := by decide +kernel
theorem d_Own_passes_335 : decode prog_14_method_12_code 335 = .ok (.aload_n 0, 1) := by decide +kernel
theorem d_Own_passes_336 : decode prog_14_method_12_code 336 = .ok (.getfield 16, 3) := by decide +kernel
theorem d_Own_passes_339 : decode prog_14_method_12_code 339 = .ok (.iload 4, 2) := by decide +kernel
theorem d_Own_passes_341 : decode prog_14_method_12_code 341 = .ok (.iaload, 1) := by decide +kernel
theorem d_Own_passes_342 : decode prog_14_method_12_code 342 = .ok (.idiv, 1) := by decide +kernel
theorem d_Own_passes_343 : decode prog_14_method_12_code 343 = .ok (.aload_n 0, 1) := by decide +kernel
theorem d_Own_passes_344 : decode prog_14_method_12_code 344 = .ok (.getfield 13, 3) := by decide +kernel
theorem d_Own_passes_347 : decode prog_14_method_12_code 347 = .ok (.aload_n 0, 1) := by decide +kernel
theorem d_Own_passes_348 : decode prog_14_method_12_code 348 = .ok (.getfield 31, 3) := by decide +kernel
theorem d_Own_passes_351 : decode prog_14_method_12_code 351 = .ok (.iload_n 2, 1) := by decide +kernel
theorem d_Own_passes_352 : decode prog_14_method_12_code 352 = .ok (.iaload, 1) := by decide +kernel
theorem d_Own_passes_353 : decode prog_14_method_12_code 353 = .ok (.iaload, 1) := by decide +kernel
theorem d_Own_passes_354 : decode prog_14_method_12_code 354 = .ok (.aload_n 0, 1) := by decide +kernel
theorem d_Own_passes_355 : decode prog_14_method_12_code 355 = .ok (.getfield 16, 3) := by decide +kernel
theorem d_Own_passes_358 : decode prog_14_method_12_code 358 = .ok (.iload 4, 2) := by decide +kernel
theorem d_Own_passes_360 : decode prog_14_method_12_code 360 = .ok (.iaload, 1) := by decide +kernel
theorem d_Own_passes_361 : decode prog_14_method_12_code 361 = .ok (.irem, 1) := by decide +kernel
theorem d_Own_passes_362 : decode prog_14_method_12_code 362 = .ok (.ifCond .le 7, 3) := by decide +kernel
theorem d_Own_passes_365 : decode prog_14_method_12_code 365 = .ok (.iconst 1, 1) := by decide +kernel
theorem d_Own_passes_366 : decode prog_14_method_12_code 366 = .ok (.goto 4, 3) := by decide +kernel
theorem d_Own_passes_369 : decode prog_14_method_12_code 369 = .ok (.iconst 0, 1) := by decide +kernel
theorem d_Own_passes_370 : decode prog_14_method_12_code 370 = .ok (.iadd, 1) := by decide +kernel
theorem d_Own_passes_371 : decode prog_14_method_12_code 371 = .ok (.iastore, 1) := by decide +kernel
theorem d_Own_passes_372 : decode prog_14_method_12_code 372 = .ok (.aload_n 0, 1) := by decide +kernel
theorem d_Own_passes_373 : decode prog_14_method_12_code 373 = .ok (.getfield 19, 3) := by decide +kernel
theorem d_Own_passes_376 : decode prog_14_method_12_code 376 = .ok (.iload 4, 2) := by decide +kernel
theorem d_Own_passes_378 : decode prog_14_method_12_code 378 = .ok (.aload_n 0, 1) := by decide +kernel
theorem d_Own_passes_379 : decode prog_14_method_12_code 379 = .ok (.getfield 28, 3) := by decide +kernel
theorem d_Own_passes_382 : decode prog_14_method_12_code 382 = .ok (.iload 4, 2) := by decide +kernel
theorem d_Own_passes_384 : decode prog_14_method_12_code 384 = .ok (.iaload, 1) := by decide +kernel
theorem d_Own_passes_385 : decode prog_14_method_12_code 385 = .ok (.iastore, 1) := by decide +kernel
theorem d_Own_passes_386 : decode prog_14_method_12_code 386 = .ok (.aload_n 0, 1) := by decide +kernel
theorem d_Own_passes_387 : decode prog_14_method_12_code 387 = .ok (.getfield 22, 3) := by decide +kernel
theorem d_Own_passes_390 : decode prog_14_method_12_code 390 = .ok (.iload 4, 2) := by decide +kernel
theorem d_Own_passes_392 : decode prog_14_method_12_code 392 = .ok (.aload_n 0, 1) := by decide +kernel
theorem d_Own_passes_393 : decode prog_14_method_12_code 393 = .ok (.iload_n 2, 1) := by decide +kernel
theorem d_Own_passes_394 : decode prog_14_method_12_code 394 = .ok (.invokevirtual 118, 3) := by decide +kernel
theorem d_Own_passes_397 : decode prog_14_method_12_code 397 = .ok (.iastore, 1) := by decide +kernel
theorem d_Own_passes_398 : decode prog_14_method_12_code 398 = .ok (.aload_n 0, 1) := by decide +kernel
theorem d_Own_passes_399 : decode prog_14_method_12_code 399 = .ok (.getfield 25, 3) := by decide +kernel
theorem d_Own_passes_402 : decode prog_14_method_12_code 402 = .ok (.iload 4, 2) := by decide +kernel
theorem d_Own_passes_404 : decode prog_14_method_12_code 404 = .ok (.aload_n 0, 1) := by decide +kernel
theorem d_Own_passes_405 : decode prog_14_method_12_code 405 = .ok (.getfield 31, 3) := by decide +kernel
theorem d_Own_passes_408 : decode prog_14_method_12_code 408 = .ok (.iload_n 2, 1) := by decide +kernel
theorem d_Own_passes_409 : decode prog_14_method_12_code 409 = .ok (.iaload, 1) := by decide +kernel
theorem d_Own_passes_410 : decode prog_14_method_12_code 410 = .ok (.iastore, 1) := by decide +kernel
theorem d_Own_passes_411 : decode prog_14_method_12_code 411 = .ok (.aload_n 0, 1) := by decide +kernel
theorem d_Own_passes_412 : decode prog_14_method_12_code 412 = .ok (.dup, 1) := by decide +kernel
theorem d_Own_passes_413 : decode prog_14_method_12_code 413 = .ok (.getfield 72, 3) := by decide +kernel
theorem d_Own_passes_416 : decode prog_14_method_12_code 416 = .ok (.aload_n 0, 1) := by decide +kernel
theorem d_Own_passes_417 : decode prog_14_method_12_code 417 = .ok (.getfield 22, 3) := by decide +kernel
theorem d_Own_passes_420 : decode prog_14_method_12_code 420 = .ok (.iload 4, 2) := by decide +kernel
theorem d_Own_passes_422 : decode prog_14_method_12_code 422 = .ok (.iaload, 1) := by decide +kernel
theorem d_Own_passes_423 : decode prog_14_method_12_code 423 = .ok (.isub, 1) := by decide +kernel
theorem d_Own_passes_424 : decode prog_14_method_12_code 424 = .ok (.putfield 72, 3) := by decide +kernel
theorem d_Own_passes_427 : decode prog_14_method_12_code 427 = .ok (.aload_n 0, 1) := by decide +kernel
theorem d_Own_passes_428 : decode prog_14_method_12_code 428 = .ok (.dup, 1) := by decide +kernel
theorem d_Own_passes_429 : decode prog_14_method_12_code 429 = .ok (.getfield 115, 3) := by decide +kernel
theorem d_Own_passes_432 : decode prog_14_method_12_code 432 = .ok (.aload_n 0, 1) := by decide +kernel
theorem d_Own_passes_433 : decode prog_14_method_12_code 433 = .ok (.getfield 22, 3) := by decide +kernel
theorem d_Own_passes_436 : decode prog_14_method_12_code 436 = .ok (.iload 4, 2) := by decide +kernel
theorem d_Own_passes_438 : decode prog_14_method_12_code 438 = .ok (.iaload, 1) := by decide +kernel
theorem d_Own_passes_439 : decode prog_14_method_12_code 439 = .ok (.iadd, 1) := by decide +kernel
theorem d_Own_passes_440 : decode prog_14_method_12_code 440 = .ok (.putfield 115, 3) := by decide +kernel
theorem d_Own_passes_443 : decode prog_14_method_12_code 443 = .ok (.aload_n 0, 1) := by decide +kernel
theorem d_Own_passes_444 : decode prog_14_method_12_code 444 = .ok (.getfield 49, 3) := by decide +kernel
theorem d_Own_passes_447 : decode prog_14_method_12_code 447 = .ok (.iload_n 2, 1) := by decide +kernel
theorem d_Own_passes_448 : decode prog_14_method_12_code 448 = .ok (.iconst 3, 1) := by decide +kernel
theorem d_Own_passes_449 : decode prog_14_method_12_code 449 = .ok (.iastore, 1) := by decide +kernel
theorem d_Own_passes_450 : decode prog_14_method_12_code 450 = .ok (.iinc 1 1, 3) := by decide +kernel
theorem d_Own_passes_453 : decode prog_14_method_12_code 453 = .ok (.goto (-253), 3) := by decide +kernel
theorem d_Own_passes_456 : decode prog_14_method_12_code 456 = .ok (.return_, 1) := by decide +kernel
theorem d_Own_queued_0 : decode prog_14_method_9_code 0 = .ok (.iconst 0, 1) := by decide +kernel
theorem d_Own_queued_1 : decode prog_14_method_9_code 1 = .ok (.istore_n 2, 1) := by decide +kernel
theorem d_Own_queued_2 : decode prog_14_method_9_code 2 = .ok (.iload_n 2, 1) := by decide +kernel
theorem d_Own_queued_3 : decode prog_14_method_9_code 3 = .ok (.aload_n 0, 1) := by decide +kernel
theorem d_Own_queued_4 : decode prog_14_method_9_code 4 = .ok (.getfield 109, 3) := by decide +kernel
theorem d_Own_queued_7 : decode prog_14_method_9_code 7 = .ok (.if_icmp .ge 21, 3) := by decide +kernel
theorem d_Own_queued_10 : decode prog_14_method_9_code 10 = .ok (.aload_n 0, 1) := by decide +kernel
theorem d_Own_queued_11 : decode prog_14_method_9_code 11 = .ok (.getfield 58, 3) := by decide +kernel
theorem d_Own_queued_14 : decode prog_14_method_9_code 14 = .ok (.iload_n 2, 1) := by decide +kernel
theorem d_Own_queued_15 : decode prog_14_method_9_code 15 = .ok (.iaload, 1) := by decide +kernel
theorem d_Own_queued_16 : decode prog_14_method_9_code 16 = .ok (.iload_n 1, 1) := by decide +kernel
theorem d_Own_queued_17 : decode prog_14_method_9_code 17 = .ok (.if_icmp .ne 5, 3) := by decide +kernel
theorem d_Own_queued_20 : decode prog_14_method_9_code 20 = .ok (.iload_n 2, 1) := by decide +kernel
theorem d_Own_queued_21 : decode prog_14_method_9_code 21 = .ok (.ireturn, 1) := by decide +kernel
theorem d_Own_queued_22 : decode prog_14_method_9_code 22 = .ok (.iinc 2 1, 3) := by decide +kernel
theorem d_Own_queued_25 : decode prog_14_method_9_code 25 = .ok (.goto (-23), 3) := by decide +kernel
theorem d_Own_queued_28 : decode prog_14_method_9_code 28 = .ok (.iconst (-1), 1) := by decide +kernel
theorem d_Own_queued_29 : decode prog_14_method_9_code 29 = .ok (.ireturn, 1) := by decide +kernel
theorem d_Own_times_0 : decode prog_14_method_7_code 0 = .ok (.iconst 0, 1) := by decide +kernel
theorem d_Own_times_1 : decode prog_14_method_7_code 1 = .ok (.istore_n 3, 1) := by decide +kernel
theorem d_Own_times_2 : decode prog_14_method_7_code 2 = .ok (.iconst 0, 1) := by decide +kernel
theorem d_Own_times_3 : decode prog_14_method_7_code 3 = .ok (.istore 4, 2) := by decide +kernel
theorem d_Own_times_5 : decode prog_14_method_7_code 5 = .ok (.iload 4, 2) := by decide +kernel
theorem d_Own_times_7 : decode prog_14_method_7_code 7 = .ok (.aload_n 0, 1) := by decide +kernel
theorem d_Own_times_8 : decode prog_14_method_7_code 8 = .ok (.getfield 106, 3) := by decide +kernel
theorem d_Own_times_11 : decode prog_14_method_7_code 11 = .ok (.if_icmp .ge 33, 3) := by decide +kernel
theorem d_Own_times_14 : decode prog_14_method_7_code 14 = .ok (.iload_n 3, 1) := by decide +kernel
theorem d_Own_times_15 : decode prog_14_method_7_code 15 = .ok (.aload_n 0, 1) := by decide +kernel
theorem d_Own_times_16 : decode prog_14_method_7_code 16 = .ok (.getfield 65, 3) := by decide +kernel
theorem d_Own_times_19 : decode prog_14_method_7_code 19 = .ok (.iload 4, 2) := by decide +kernel
theorem d_Own_times_21 : decode prog_14_method_7_code 21 = .ok (.iaload, 1) := by decide +kernel
theorem d_Own_times_22 : decode prog_14_method_7_code 22 = .ok (.bipush 6, 2) := by decide +kernel
theorem d_Own_times_24 : decode prog_14_method_7_code 24 = .ok (.iload_n 1, 1) := by decide +kernel
theorem d_Own_times_25 : decode prog_14_method_7_code 25 = .ok (.imul, 1) := by decide +kernel
theorem d_Own_times_26 : decode prog_14_method_7_code 26 = .ok (.iload_n 2, 1) := by decide +kernel
theorem d_Own_times_27 : decode prog_14_method_7_code 27 = .ok (.iadd, 1) := by decide +kernel
theorem d_Own_times_28 : decode prog_14_method_7_code 28 = .ok (.if_icmp .ne 7, 3) := by decide +kernel
theorem d_Own_times_31 : decode prog_14_method_7_code 31 = .ok (.iconst 1, 1) := by decide +kernel
theorem d_Own_times_32 : decode prog_14_method_7_code 32 = .ok (.goto 4, 3) := by decide +kernel
theorem d_Own_times_35 : decode prog_14_method_7_code 35 = .ok (.iconst 0, 1) := by decide +kernel
theorem d_Own_times_36 : decode prog_14_method_7_code 36 = .ok (.iadd, 1) := by decide +kernel
theorem d_Own_times_37 : decode prog_14_method_7_code 37 = .ok (.istore_n 3, 1) := by decide +kernel
theorem d_Own_times_38 : decode prog_14_method_7_code 38 = .ok (.iinc 4 1, 3) := by decide +kernel
theorem d_Own_times_41 : decode prog_14_method_7_code 41 = .ok (.goto (-36), 3) := by decide +kernel
theorem d_Own_times_44 : decode prog_14_method_7_code 44 = .ok (.iload_n 3, 1) := by decide +kernel
theorem d_Own_times_45 : decode prog_14_method_7_code 45 = .ok (.ireturn, 1) := by decide +kernel
theorem d_String_length_8abf5_0 : decode prog_31_method_54_code 0 = .ok (.aload_n 0, 1) := by decide +kernel
theorem d_String_length_8abf5_1 : decode prog_31_method_54_code 1 = .ok (.getfield 9, 3) := by decide +kernel
theorem d_String_length_8abf5_4 : decode prog_31_method_54_code 4 = .ok (.arraylength, 1) := by decide +kernel
theorem d_String_length_8abf5_5 : decode prog_31_method_54_code 5 = .ok (.aload_n 0, 1) := by decide +kernel
theorem d_String_length_8abf5_6 : decode prog_31_method_54_code 6 = .ok (.invokevirtual 335, 3) := by decide +kernel
theorem d_String_length_8abf5_9 : decode prog_31_method_54_code 9 = .ok (.ishr, 1) := by decide +kernel
theorem d_String_length_8abf5_10 : decode prog_31_method_54_code 10 = .ok (.ireturn, 1) := by decide +kernel
theorem d_String_charAt_5068e_0 : decode prog_31_method_56_code 0 = .ok (.aload_n 0, 1) := by decide +kernel
theorem d_String_charAt_5068e_1 : decode prog_31_method_56_code 1 = .ok (.invokevirtual 492, 3) := by decide +kernel
theorem d_String_charAt_5068e_4 : decode prog_31_method_56_code 4 = .ok (.ifCond .eq 12, 3) := by decide +kernel
theorem d_String_charAt_5068e_7 : decode prog_31_method_56_code 7 = .ok (.aload_n 0, 1) := by decide +kernel
theorem d_String_charAt_5068e_8 : decode prog_31_method_56_code 8 = .ok (.getfield 9, 3) := by decide +kernel
theorem d_String_charAt_5068e_11 : decode prog_31_method_56_code 11 = .ok (.iload_n 1, 1) := by decide +kernel
theorem d_String_charAt_5068e_12 : decode prog_31_method_56_code 12 = .ok (.invokestatic 495, 3) := by decide +kernel
theorem d_String_charAt_5068e_15 : decode prog_31_method_56_code 15 = .ok (.ireturn, 1) := by decide +kernel
theorem d_String_charAt_5068e_16 : decode prog_31_method_56_code 16 = .ok (.aload_n 0, 1) := by decide +kernel
theorem d_String_charAt_5068e_17 : decode prog_31_method_56_code 17 = .ok (.getfield 9, 3) := by decide +kernel
theorem d_String_charAt_5068e_20 : decode prog_31_method_56_code 20 = .ok (.iload_n 1, 1) := by decide +kernel
theorem d_String_charAt_5068e_21 : decode prog_31_method_56_code 21 = .ok (.invokestatic 498, 3) := by decide +kernel
theorem d_String_charAt_5068e_24 : decode prog_31_method_56_code 24 = .ok (.ireturn, 1) := by decide +kernel
theorem d_String_coder_7d493_0 : decode prog_31_method_152_code 0 = .ok (.getstatic 38, 3) := by decide +kernel
theorem d_String_coder_7d493_3 : decode prog_31_method_152_code 3 = .ok (.ifCond .eq 10, 3) := by decide +kernel
theorem d_String_coder_7d493_6 : decode prog_31_method_152_code 6 = .ok (.aload_n 0, 1) := by decide +kernel
theorem d_String_coder_7d493_7 : decode prog_31_method_152_code 7 = .ok (.getfield 15, 3) := by decide +kernel
theorem d_String_coder_7d493_10 : decode prog_31_method_152_code 10 = .ok (.goto 4, 3) := by decide +kernel
theorem d_String_coder_7d493_13 : decode prog_31_method_152_code 13 = .ok (.iconst 1, 1) := by decide +kernel
theorem d_String_coder_7d493_14 : decode prog_31_method_152_code 14 = .ok (.ireturn, 1) := by decide +kernel
theorem d_String_isLatin1_aae02_0 : decode prog_31_method_154_code 0 = .ok (.getstatic 38, 3) := by decide +kernel
theorem d_String_isLatin1_aae02_3 : decode prog_31_method_154_code 3 = .ok (.ifCond .eq 14, 3) := by decide +kernel
theorem d_String_isLatin1_aae02_6 : decode prog_31_method_154_code 6 = .ok (.aload_n 0, 1) := by decide +kernel
theorem d_String_isLatin1_aae02_7 : decode prog_31_method_154_code 7 = .ok (.getfield 15, 3) := by decide +kernel
theorem d_String_isLatin1_aae02_10 : decode prog_31_method_154_code 10 = .ok (.ifCond .ne 7, 3) := by decide +kernel
theorem d_String_isLatin1_aae02_13 : decode prog_31_method_154_code 13 = .ok (.iconst 1, 1) := by decide +kernel
theorem d_String_isLatin1_aae02_14 : decode prog_31_method_154_code 14 = .ok (.goto 4, 3) := by decide +kernel
theorem d_String_isLatin1_aae02_17 : decode prog_31_method_154_code 17 = .ok (.iconst 0, 1) := by decide +kernel
theorem d_String_isLatin1_aae02_18 : decode prog_31_method_154_code 18 = .ok (.ireturn, 1) := by decide +kernel
theorem d_StringLatin1_charAt_3b067_0 : decode prog_33_method_2_code 0 = .ok (.iload_n 1, 1) := by decide +kernel
theorem d_StringLatin1_charAt_3b067_1 : decode prog_33_method_2_code 1 = .ok (.aload_n 0, 1) := by decide +kernel
theorem d_StringLatin1_charAt_3b067_2 : decode prog_33_method_2_code 2 = .ok (.arraylength, 1) := by decide +kernel
theorem d_StringLatin1_charAt_3b067_3 : decode prog_33_method_2_code 3 = .ok (.invokestatic 9, 3) := by decide +kernel
theorem d_StringLatin1_charAt_3b067_6 : decode prog_33_method_2_code 6 = .ok (.aload_n 0, 1) := by decide +kernel
theorem d_StringLatin1_charAt_3b067_7 : decode prog_33_method_2_code 7 = .ok (.iload_n 1, 1) := by decide +kernel
theorem d_StringLatin1_charAt_3b067_8 : decode prog_33_method_2_code 8 = .ok (.baload, 1) := by decide +kernel
theorem d_StringLatin1_charAt_3b067_9 : decode prog_33_method_2_code 9 = .ok (.sipush 255, 3) := by decide +kernel
theorem d_StringLatin1_charAt_3b067_12 : decode prog_33_method_2_code 12 = .ok (.iand, 1) := by decide +kernel
theorem d_StringLatin1_charAt_3b067_13 : decode prog_33_method_2_code 13 = .ok (.i2c, 1) := by decide +kernel
theorem d_StringLatin1_charAt_3b067_14 : decode prog_33_method_2_code 14 = .ok (.ireturn, 1) := by decide +kernel
