/-! Decode rows. -/
theorem d_Names_writeTo_0 : decode prog_3_method_6_code 0 = .ok (.aload_n 0, 1) := by decide +kernel
theorem d_Names_writeTo_1 : decode prog_3_method_6_code 1 = .ok (.iload_n 2, 1) := by decide +kernel
theorem d_Names_writeTo_2 : decode prog_3_method_6_code 2 = .ok (.invokevirtual 25, 3) := by decide +kernel
theorem d_Names_writeTo_5 : decode prog_3_method_6_code 5 = .ok (.ifCond .ne 4, 3) := by decide +kernel
theorem d_Names_writeTo_8 : decode prog_3_method_6_code 8 = .ok (.return_, 1) := by decide +kernel
theorem d_Names_writeTo_9 : decode prog_3_method_6_code 9 = .ok (.bipush 25, 2) := by decide +kernel
theorem d_Names_writeTo_11 : decode prog_3_method_6_code 11 = .ok (.istore_n 3, 1) := by decide +kernel
theorem d_Names_writeTo_12 : decode prog_3_method_6_code 12 = .ok (.iload_n 3, 1) := by decide +kernel
theorem d_Names_writeTo_13 : decode prog_3_method_6_code 13 = .ok (.ifCond .lt 40, 3) := by decide +kernel
theorem d_Names_writeTo_16 : decode prog_3_method_6_code 16 = .ok (.aload_n 0, 1) := by decide +kernel
theorem d_Names_writeTo_17 : decode prog_3_method_6_code 17 = .ok (.getfield 9, 3) := by decide +kernel
theorem d_Names_writeTo_20 : decode prog_3_method_6_code 20 = .ok (.iload_n 2, 1) := by decide +kernel
theorem d_Names_writeTo_21 : decode prog_3_method_6_code 21 = .ok (.iaload, 1) := by decide +kernel
theorem d_Names_writeTo_22 : decode prog_3_method_6_code 22 = .ok (.iload_n 3, 1) := by decide +kernel
theorem d_Names_writeTo_23 : decode prog_3_method_6_code 23 = .ok (.ishr, 1) := by decide +kernel
theorem d_Names_writeTo_24 : decode prog_3_method_6_code 24 = .ok (.bipush 31, 2) := by decide +kernel
theorem d_Names_writeTo_26 : decode prog_3_method_6_code 26 = .ok (.iand, 1) := by decide +kernel
theorem d_Names_writeTo_27 : decode prog_3_method_6_code 27 = .ok (.istore 4, 2) := by decide +kernel
theorem d_Names_writeTo_29 : decode prog_3_method_6_code 29 = .ok (.iload 4, 2) := by decide +kernel
theorem d_Names_writeTo_31 : decode prog_3_method_6_code 31 = .ok (.ifCond .eq 16, 3) := by decide +kernel
theorem d_Names_writeTo_34 : decode prog_3_method_6_code 34 = .ok (.aload_n 1, 1) := by decide +kernel
theorem d_Names_writeTo_35 : decode prog_3_method_6_code 35 = .ok (.bipush 97, 2) := by decide +kernel
theorem d_Names_writeTo_37 : decode prog_3_method_6_code 37 = .ok (.iload 4, 2) := by decide +kernel
theorem d_Names_writeTo_39 : decode prog_3_method_6_code 39 = .ok (.iadd, 1) := by decide +kernel
theorem d_Names_writeTo_40 : decode prog_3_method_6_code 40 = .ok (.iconst 1, 1) := by decide +kernel
theorem d_Names_writeTo_41 : decode prog_3_method_6_code 41 = .ok (.isub, 1) := by decide +kernel
theorem d_Names_writeTo_42 : decode prog_3_method_6_code 42 = .ok (.i2c, 1) := by decide +kernel
theorem d_Names_writeTo_43 : decode prog_3_method_6_code 43 = .ok (.invokevirtual 29, 3) := by decide +kernel
theorem d_Names_writeTo_46 : decode prog_3_method_6_code 46 = .ok (.pop, 1) := by decide +kernel
theorem d_Names_writeTo_47 : decode prog_3_method_6_code 47 = .ok (.iinc 3 (-5), 3) := by decide +kernel
theorem d_Names_writeTo_50 : decode prog_3_method_6_code 50 = .ok (.goto (-38), 3) := by decide +kernel
theorem d_Names_writeTo_53 : decode prog_3_method_6_code 53 = .ok (.return_, 1) := by decide +kernel
theorem d_P_writeProphecy_0 : decode prog_1_method_50_code 0 = .ok (.aload_n 0, 1) := by decide +kernel
theorem d_P_writeProphecy_1 : decode prog_1_method_50_code 1 = .ok (.iload_n 1, 1) := by decide +kernel
theorem d_P_writeProphecy_2 : decode prog_1_method_50_code 2 = .ok (.invokevirtual 198, 3) := by decide +kernel
theorem d_P_writeProphecy_5 : decode prog_1_method_50_code 5 = .ok (.astore_n 2, 1) := by decide +kernel
theorem d_P_writeProphecy_6 : decode prog_1_method_50_code 6 = .ok (.new 327, 3) := by decide +kernel
theorem d_P_writeProphecy_9 : decode prog_1_method_50_code 9 = .ok (.dup, 1) := by decide +kernel
theorem d_P_writeProphecy_10 : decode prog_1_method_50_code 10 = .ok (.invokespecial 329, 3) := by decide +kernel
theorem d_P_writeProphecy_13 : decode prog_1_method_50_code 13 = .ok (.astore_n 3, 1) := by decide +kernel
theorem d_P_writeProphecy_14 : decode prog_1_method_50_code 14 = .ok (.aload_n 0, 1) := by decide +kernel
theorem d_P_writeProphecy_15 : decode prog_1_method_50_code 15 = .ok (.getfield 35, 3) := by decide +kernel
theorem d_P_writeProphecy_18 : decode prog_1_method_50_code 18 = .ok (.getfield 164, 3) := by decide +kernel
theorem d_P_writeProphecy_21 : decode prog_1_method_50_code 21 = .ok (.aload_n 3, 1) := by decide +kernel
theorem d_P_writeProphecy_22 : decode prog_1_method_50_code 22 = .ok (.aload_n 2, 1) := by decide +kernel
theorem d_P_writeProphecy_23 : decode prog_1_method_50_code 23 = .ok (.getfield 202, 3) := by decide +kernel
theorem d_P_writeProphecy_26 : decode prog_1_method_50_code 26 = .ok (.invokevirtual 330, 3) := by decide +kernel
theorem d_P_writeProphecy_29 : decode prog_1_method_50_code 29 = .ok (.aload_n 3, 1) := by decide +kernel
theorem d_P_writeProphecy_30 : decode prog_1_method_50_code 30 = .ok (.bipush 58, 2) := by decide +kernel
theorem d_P_writeProphecy_32 : decode prog_1_method_50_code 32 = .ok (.invokevirtual 334, 3) := by decide +kernel
theorem d_P_writeProphecy_35 : decode prog_1_method_50_code 35 = .ok (.pop, 1) := by decide +kernel
theorem d_P_writeProphecy_36 : decode prog_1_method_50_code 36 = .ok (.aload_n 2, 1) := by decide +kernel
theorem d_P_writeProphecy_37 : decode prog_1_method_50_code 37 = .ok (.getfield 213, 3) := by decide +kernel
theorem d_P_writeProphecy_40 : decode prog_1_method_50_code 40 = .ok (.iconst 2, 1) := by decide +kernel
theorem d_P_writeProphecy_41 : decode prog_1_method_50_code 41 = .ok (.if_icmp .ne 10, 3) := by decide +kernel
theorem d_P_writeProphecy_44 : decode prog_1_method_50_code 44 = .ok (.aload_n 3, 1) := by decide +kernel
theorem d_P_writeProphecy_45 : decode prog_1_method_50_code 45 = .ok (.bipush 33, 2) := by decide +kernel
theorem d_P_writeProphecy_47 : decode prog_1_method_50_code 47 = .ok (.invokevirtual 334, 3) := by decide +kernel
theorem d_P_writeProphecy_50 : decode prog_1_method_50_code 50 = .ok (.pop, 1) := by decide +kernel
theorem d_P_writeProphecy_51 : decode prog_1_method_50_code 51 = .ok (.aload_n 0, 1) := by decide +kernel
theorem d_P_writeProphecy_52 : decode prog_1_method_50_code 52 = .ok (.getfield 35, 3) := by decide +kernel
theorem d_P_writeProphecy_55 : decode prog_1_method_50_code 55 = .ok (.getfield 152, 3) := by decide +kernel
theorem d_P_writeProphecy_58 : decode prog_1_method_50_code 58 = .ok (.aload_n 3, 1) := by decide +kernel
theorem d_P_writeProphecy_59 : decode prog_1_method_50_code 59 = .ok (.aload_n 2, 1) := by decide +kernel
theorem d_P_writeProphecy_60 : decode prog_1_method_50_code 60 = .ok (.getfield 207, 3) := by decide +kernel
theorem d_P_writeProphecy_63 : decode prog_1_method_50_code 63 = .ok (.invokevirtual 330, 3) := by decide +kernel
theorem d_P_writeProphecy_66 : decode prog_1_method_50_code 66 = .ok (.aload_n 3, 1) := by decide +kernel
theorem d_P_writeProphecy_67 : decode prog_1_method_50_code 67 = .ok (.bipush 64, 2) := by decide +kernel
theorem d_P_writeProphecy_69 : decode prog_1_method_50_code 69 = .ok (.invokevirtual 334, 3) := by decide +kernel
theorem d_P_writeProphecy_72 : decode prog_1_method_50_code 72 = .ok (.pop, 1) := by decide +kernel
theorem d_P_writeProphecy_73 : decode prog_1_method_50_code 73 = .ok (.aload_n 2, 1) := by decide +kernel
theorem d_P_writeProphecy_74 : decode prog_1_method_50_code 74 = .ok (.getfield 213, 3) := by decide +kernel
theorem d_P_writeProphecy_77 : decode prog_1_method_50_code 77 = .ok (.iconst 1, 1) := by decide +kernel
theorem d_P_writeProphecy_78 : decode prog_1_method_50_code 78 = .ok (.if_icmp .ne 13, 3) := by decide +kernel
theorem d_P_writeProphecy_81 : decode prog_1_method_50_code 81 = .ok (.aload_n 3, 1) := by decide +kernel
theorem d_P_writeProphecy_82 : decode prog_1_method_50_code 82 = .ok (.bipush 42, 2) := by decide +kernel
theorem d_P_writeProphecy_84 : decode prog_1_method_50_code 84 = .ok (.invokevirtual 334, 3) := by decide +kernel
theorem d_P_writeProphecy_87 : decode prog_1_method_50_code 87 = .ok (.pop, 1) := by decide +kernel
theorem d_P_writeProphecy_88 : decode prog_1_method_50_code 88 = .ok (.goto 18, 3) := by decide +kernel
theorem d_P_writeProphecy_91 : decode prog_1_method_50_code 91 = .ok (.aload_n 0, 1) := by decide +kernel
theorem d_P_writeProphecy_92 : decode prog_1_method_50_code 92 = .ok (.getfield 35, 3) := by decide +kernel
theorem d_P_writeProphecy_95 : decode prog_1_method_50_code 95 = .ok (.getfield 161, 3) := by decide +kernel
theorem d_P_writeProphecy_98 : decode prog_1_method_50_code 98 = .ok (.aload_n 3, 1) := by decide +kernel
theorem d_P_writeProphecy_99 : decode prog_1_method_50_code 99 = .ok (.aload_n 2, 1) := by decide +kernel
theorem d_P_writeProphecy_100 : decode prog_1_method_50_code 100 = .ok (.getfield 210, 3) := by decide +kernel
theorem d_P_writeProphecy_103 : decode prog_1_method_50_code 103 = .ok (.invokevirtual 330, 3) := by decide +kernel
theorem d_P_writeProphecy_106 : decode prog_1_method_50_code 106 = .ok (.aload_n 3, 1) := by decide +kernel
theorem d_P_writeProphecy_107 : decode prog_1_method_50_code 107 = .ok (.bipush 32, 2) := by decide +kernel
theorem d_P_writeProphecy_109 : decode prog_1_method_50_code 109 = .ok (.invokevirtual 334, 3) := by decide +kernel
theorem d_P_writeProphecy_112 : decode prog_1_method_50_code 112 = .ok (.aload_n 2, 1) := by decide +kernel
theorem d_P_writeProphecy_113 : decode prog_1_method_50_code 113 = .ok (.getfield 216, 3) := by decide +kernel
theorem d_P_writeProphecy_116 : decode prog_1_method_50_code 116 = .ok (.invokevirtual 338, 3) := by decide +kernel
theorem d_P_writeProphecy_119 : decode prog_1_method_50_code 119 = .ok (.bipush 45, 2) := by decide +kernel
theorem d_P_writeProphecy_121 : decode prog_1_method_50_code 121 = .ok (.invokevirtual 334, 3) := by decide +kernel
theorem d_P_writeProphecy_124 : decode prog_1_method_50_code 124 = .ok (.aload_n 2, 1) := by decide +kernel
theorem d_P_writeProphecy_125 : decode prog_1_method_50_code 125 = .ok (.getfield 219, 3) := by decide +kernel
theorem d_P_writeProphecy_128 : decode prog_1_method_50_code 128 = .ok (.invokevirtual 338, 3) := by decide +kernel
theorem d_P_writeProphecy_131 : decode prog_1_method_50_code 131 = .ok (.pop, 1) := by decide +kernel
theorem d_P_writeProphecy_132 : decode prog_1_method_50_code 132 = .ok (.aload_n 0, 1) := by decide +kernel
theorem d_P_writeProphecy_133 : decode prog_1_method_50_code 133 = .ok (.aload_n 3, 1) := by decide +kernel
theorem d_P_writeProphecy_134 : decode prog_1_method_50_code 134 = .ok (.invokevirtual 341, 3) := by decide +kernel
theorem d_P_writeProphecy_137 : decode prog_1_method_50_code 137 = .ok (.putfield 78, 3) := by decide +kernel
theorem d_P_writeProphecy_140 : decode prog_1_method_50_code 140 = .ok (.aload_n 0, 1) := by decide +kernel
theorem d_P_writeProphecy_141 : decode prog_1_method_50_code 141 = .ok (.getfield 78, 3) := by decide +kernel
theorem d_P_writeProphecy_144 : decode prog_1_method_50_code 144 = .ok (.invokevirtual 84, 3) := by decide +kernel
theorem d_P_writeProphecy_147 : decode prog_1_method_50_code 147 = .ok (.ireturn, 1) := by decide +kernel
theorem d_P_writeQueue_0 : decode prog_1_method_51_code 0 = .ok (.new 327, 3) := by decide +kernel
theorem d_P_writeQueue_3 : decode prog_1_method_51_code 3 = .ok (.dup, 1) := by decide +kernel
theorem d_P_writeQueue_4 : decode prog_1_method_51_code 4 = .ok (.invokespecial 329, 3) := by decide +kernel
theorem d_P_writeQueue_7 : decode prog_1_method_51_code 7 = .ok (.astore_n 1, 1) := by decide +kernel
theorem d_P_writeQueue_8 : decode prog_1_method_51_code 8 = .ok (.iconst 0, 1) := by decide +kernel
theorem d_P_writeQueue_9 : decode prog_1_method_51_code 9 = .ok (.istore_n 2, 1) := by decide +kernel
theorem d_P_writeQueue_10 : decode prog_1_method_51_code 10 = .ok (.iload_n 2, 1) := by decide +kernel
theorem d_P_writeQueue_11 : decode prog_1_method_51_code 11 = .ok (.aload_n 0, 1) := by decide +kernel
theorem d_P_writeQueue_12 : decode prog_1_method_51_code 12 = .ok (.getfield 47, 3) := by decide +kernel
theorem d_P_writeQueue_15 : decode prog_1_method_51_code 15 = .ok (.getfield 237, 3) := by decide +kernel
theorem d_P_writeQueue_18 : decode prog_1_method_51_code 18 = .ok (.if_icmp .ge 33, 3) := by decide +kernel
theorem d_P_writeQueue_21 : decode prog_1_method_51_code 21 = .ok (.iload_n 2, 1) := by decide +kernel
theorem d_P_writeQueue_22 : decode prog_1_method_51_code 22 = .ok (.ifCond .le 10, 3) := by decide +kernel
theorem d_P_writeQueue_25 : decode prog_1_method_51_code 25 = .ok (.aload_n 1, 1) := by decide +kernel
theorem d_P_writeQueue_26 : decode prog_1_method_51_code 26 = .ok (.bipush 44, 2) := by decide +kernel
theorem d_P_writeQueue_28 : decode prog_1_method_51_code 28 = .ok (.invokevirtual 334, 3) := by decide +kernel
theorem d_P_writeQueue_31 : decode prog_1_method_51_code 31 = .ok (.pop, 1) := by decide +kernel
theorem d_P_writeQueue_32 : decode prog_1_method_51_code 32 = .ok (.aload_n 1, 1) := by decide +kernel
theorem d_P_writeQueue_33 : decode prog_1_method_51_code 33 = .ok (.aload_n 0, 1) := by decide +kernel
theorem d_P_writeQueue_34 : decode prog_1_method_51_code 34 = .ok (.getfield 47, 3) := by decide +kernel
theorem d_P_writeQueue_37 : decode prog_1_method_51_code 37 = .ok (.iload_n 2, 1) := by decide +kernel
theorem d_P_writeQueue_38 : decode prog_1_method_51_code 38 = .ok (.invokevirtual 345, 3) := by decide +kernel
theorem d_P_writeQueue_41 : decode prog_1_method_51_code 41 = .ok (.invokevirtual 338, 3) := by decide +kernel
theorem d_P_writeQueue_44 : decode prog_1_method_51_code 44 = .ok (.pop, 1) := by decide +kernel
theorem d_P_writeQueue_45 : decode prog_1_method_51_code 45 = .ok (.iinc 2 1, 3) := by decide +kernel
theorem d_P_writeQueue_48 : decode prog_1_method_51_code 48 = .ok (.goto (-38), 3) := by decide +kernel
theorem d_P_writeQueue_51 : decode prog_1_method_51_code 51 = .ok (.aload_n 0, 1) := by decide +kernel
theorem d_P_writeQueue_52 : decode prog_1_method_51_code 52 = .ok (.aload_n 1, 1) := by decide +kernel
theorem d_P_writeQueue_53 : decode prog_1_method_51_code 53 = .ok (.invokevirtual 341, 3) := by decide +kernel
theorem d_P_writeQueue_56 : decode prog_1_method_51_code 56 = .ok (.putfield 78, 3) := by decide +kernel
theorem d_P_writeQueue_59 : decode prog_1_method_51_code 59 = .ok (.aload_n 0, 1) := by decide +kernel
theorem d_P_writeQueue_60 : decode prog_1_method_51_code 60 = .ok (.getfield 78, 3) := by decide +kernel
theorem d_P_writeQueue_63 : decode prog_1_method_51_code 63 = .ok (.invokevirtual 84, 3) := by decide +kernel
theorem d_P_writeQueue_66 : decode prog_1_method_51_code 66 = .ok (.ireturn, 1) := by decide +kernel
theorem d_P_outputByte_0 : decode prog_1_method_52_code 0 = .ok (.iload_n 1, 1) := by decide +kernel
theorem d_P_outputByte_1 : decode prog_1_method_52_code 1 = .ok (.ifCond .lt 25, 3) := by decide +kernel
theorem d_P_outputByte_4 : decode prog_1_method_52_code 4 = .ok (.iload_n 1, 1) := by decide +kernel
theorem d_P_outputByte_5 : decode prog_1_method_52_code 5 = .ok (.aload_n 0, 1) := by decide +kernel
theorem d_P_outputByte_6 : decode prog_1_method_52_code 6 = .ok (.getfield 78, 3) := by decide +kernel
theorem d_P_outputByte_9 : decode prog_1_method_52_code 9 = .ok (.invokevirtual 84, 3) := by decide +kernel
theorem d_P_outputByte_12 : decode prog_1_method_52_code 12 = .ok (.if_icmp .ge 14, 3) := by decide +kernel
theorem d_P_outputByte_15 : decode prog_1_method_52_code 15 = .ok (.aload_n 0, 1) := by decide +kernel
theorem d_P_outputByte_16 : decode prog_1_method_52_code 16 = .ok (.getfield 78, 3) := by decide +kernel
theorem d_P_outputByte_19 : decode prog_1_method_52_code 19 = .ok (.iload_n 1, 1) := by decide +kernel
theorem d_P_outputByte_20 : decode prog_1_method_52_code 20 = .ok (.invokevirtual 90, 3) := by decide +kernel
theorem d_P_outputByte_23 : decode prog_1_method_52_code 23 = .ok (.goto 4, 3) := by decide +kernel
theorem d_P_outputByte_26 : decode prog_1_method_52_code 26 = .ok (.iconst (-1), 1) := by decide +kernel
theorem d_P_outputByte_27 : decode prog_1_method_52_code 27 = .ok (.ireturn, 1) := by decide +kernel
theorem d_History_init_0 : decode prog_2_method_1_code 0 = .ok (.aload_n 0, 1) := by decide +kernel
theorem d_History_init_1 : decode prog_2_method_1_code 1 = .ok (.invokespecial 3, 3) := by decide +kernel
theorem d_History_init_4 : decode prog_2_method_1_code 4 = .ok (.aload_n 0, 1) := by decide +kernel
theorem d_History_init_5 : decode prog_2_method_1_code 5 = .ok (.bipush 8, 2) := by decide +kernel
theorem d_History_init_7 : decode prog_2_method_1_code 7 = .ok (.anewarray 9, 3) := by decide +kernel
theorem d_History_init_10 : decode prog_2_method_1_code 10 = .ok (.putfield 11, 3) := by decide +kernel
theorem d_History_init_13 : decode prog_2_method_1_code 13 = .ok (.aload_n 0, 1) := by decide +kernel
theorem d_History_init_14 : decode prog_2_method_1_code 14 = .ok (.iconst 0, 1) := by decide +kernel
theorem d_History_init_15 : decode prog_2_method_1_code 15 = .ok (.putfield 17, 3) := by decide +kernel
theorem d_History_init_18 : decode prog_2_method_1_code 18 = .ok (.iconst 0, 1) := by decide +kernel
theorem d_History_init_19 : decode prog_2_method_1_code 19 = .ok (.istore_n 2, 1) := by decide +kernel
theorem d_History_init_20 : decode prog_2_method_1_code 20 = .ok (.iload_n 2, 1) := by decide +kernel
theorem d_History_init_21 : decode prog_2_method_1_code 21 = .ok (.bipush 8, 2) := by decide +kernel
theorem d_History_init_23 : decode prog_2_method_1_code 23 = .ok (.if_icmp .ge 23, 3) := by decide +kernel
theorem d_History_init_26 : decode prog_2_method_1_code 26 = .ok (.aload_n 0, 1) := by decide +kernel
theorem d_History_init_27 : decode prog_2_method_1_code 27 = .ok (.getfield 11, 3) := by decide +kernel
theorem d_History_init_30 : decode prog_2_method_1_code 30 = .ok (.iload_n 2, 1) := by decide +kernel
theorem d_History_init_31 : decode prog_2_method_1_code 31 = .ok (.new 9, 3) := by decide +kernel
theorem d_History_init_34 : decode prog_2_method_1_code 34 = .ok (.dup, 1) := by decide +kernel
theorem d_History_init_35 : decode prog_2_method_1_code 35 = .ok (.aload_n 1, 1) := by decide +kernel
theorem d_History_init_36 : decode prog_2_method_1_code 36 = .ok (.invokespecial 21, 3) := by decide +kernel
theorem d_History_init_39 : decode prog_2_method_1_code 39 = .ok (.aastore, 1) := by decide +kernel
theorem d_History_init_40 : decode prog_2_method_1_code 40 = .ok (.iinc 2 1, 3) := by decide +kernel
theorem d_History_init_43 : decode prog_2_method_1_code 43 = .ok (.goto (-23), 3) := by decide +kernel
theorem d_History_init_46 : decode prog_2_method_1_code 46 = .ok (.return_, 1) := by decide +kernel
theorem d_Names_init_0 : decode prog_3_method_1_code 0 = .ok (.aload_n 0, 1) := by decide +kernel
theorem d_Names_init_1 : decode prog_3_method_1_code 1 = .ok (.invokespecial 3, 3) := by decide +kernel
theorem d_Names_init_4 : decode prog_3_method_1_code 4 = .ok (.aload_n 0, 1) := by decide +kernel
theorem d_Names_init_5 : decode prog_3_method_1_code 5 = .ok (.bipush 8, 2) := by decide +kernel
theorem d_Names_init_7 : decode prog_3_method_1_code 7 = .ok (.newarray .int, 2) := by decide +kernel
theorem d_Names_init_9 : decode prog_3_method_1_code 9 = .ok (.putfield 9, 3) := by decide +kernel
theorem d_Names_init_12 : decode prog_3_method_1_code 12 = .ok (.aload_n 0, 1) := by decide +kernel
theorem d_Names_init_13 : decode prog_3_method_1_code 13 = .ok (.iconst 0, 1) := by decide +kernel
theorem d_Names_init_14 : decode prog_3_method_1_code 14 = .ok (.putfield 15, 3) := by decide +kernel
theorem d_Names_init_17 : decode prog_3_method_1_code 17 = .ok (.return_, 1) := by decide +kernel
theorem d_Owl_init_0 : decode prog_4_method_1_code 0 = .ok (.aload_n 0, 1) := by decide +kernel
theorem d_Owl_init_1 : decode prog_4_method_1_code 1 = .ok (.invokespecial 3, 3) := by decide +kernel
theorem d_Owl_init_4 : decode prog_4_method_1_code 4 = .ok (.aload_n 0, 1) := by decide +kernel
theorem d_Owl_init_5 : decode prog_4_method_1_code 5 = .ok (.iconst 0, 1) := by decide +kernel
theorem d_Owl_init_6 : decode prog_4_method_1_code 6 = .ok (.putfield 9, 3) := by decide +kernel
theorem d_Owl_init_9 : decode prog_4_method_1_code 9 = .ok (.aload_n 0, 1) := by decide +kernel
theorem d_Owl_init_10 : decode prog_4_method_1_code 10 = .ok (.iconst 0, 1) := by decide +kernel
theorem d_Owl_init_11 : decode prog_4_method_1_code 11 = .ok (.putfield 15, 3) := by decide +kernel
theorem d_Owl_init_14 : decode prog_4_method_1_code 14 = .ok (.aload_n 0, 1) := by decide +kernel
theorem d_Owl_init_15 : decode prog_4_method_1_code 15 = .ok (.iconst 0, 1) := by decide +kernel
theorem d_Owl_init_16 : decode prog_4_method_1_code 16 = .ok (.putfield 18, 3) := by decide +kernel
theorem d_Owl_init_19 : decode prog_4_method_1_code 19 = .ok (.aload_n 0, 1) := by decide +kernel
theorem d_Owl_init_20 : decode prog_4_method_1_code 20 = .ok (.iconst 0, 1) := by decide +kernel
theorem d_Owl_init_21 : decode prog_4_method_1_code 21 = .ok (.putfield 21, 3) := by decide +kernel
theorem d_Owl_init_24 : decode prog_4_method_1_code 24 = .ok (.aload_n 0, 1) := by decide +kernel
theorem d_Owl_init_25 : decode prog_4_method_1_code 25 = .ok (.iconst 0, 1) := by decide +kernel
theorem d_Owl_init_26 : decode prog_4_method_1_code 26 = .ok (.putfield 24, 3) := by decide +kernel
theorem d_Owl_init_29 : decode prog_4_method_1_code 29 = .ok (.return_, 1) := by decide +kernel
theorem d_Prophecy_init_0 : decode prog_5_method_1_code 0 = .ok (.aload_n 0, 1) := by decide +kernel
theorem d_Prophecy_init_1 : decode prog_5_method_1_code 1 = .ok (.invokespecial 3, 3) := by decide +kernel
theorem d_Prophecy_init_4 : decode prog_5_method_1_code 4 = .ok (.aload_n 0, 1) := by decide +kernel
theorem d_Prophecy_init_5 : decode prog_5_method_1_code 5 = .ok (.iconst 0, 1) := by decide +kernel
theorem d_Prophecy_init_6 : decode prog_5_method_1_code 6 = .ok (.putfield 9, 3) := by decide +kernel
theorem d_Prophecy_init_9 : decode prog_5_method_1_code 9 = .ok (.aload_n 0, 1) := by decide +kernel
theorem d_Prophecy_init_10 : decode prog_5_method_1_code 10 = .ok (.iconst 0, 1) := by decide +kernel
theorem d_Prophecy_init_11 : decode prog_5_method_1_code 11 = .ok (.putfield 15, 3) := by decide +kernel
theorem d_Prophecy_init_14 : decode prog_5_method_1_code 14 = .ok (.aload_n 0, 1) := by decide +kernel
theorem d_Prophecy_init_15 : decode prog_5_method_1_code 15 = .ok (.iconst 0, 1) := by decide +kernel
theorem d_Prophecy_init_16 : decode prog_5_method_1_code 16 = .ok (.putfield 18, 3) := by decide +kernel
theorem d_Prophecy_init_19 : decode prog_5_method_1_code 19 = .ok (.aload_n 0, 1) := by decide +kernel
theorem d_Prophecy_init_20 : decode prog_5_method_1_code 20 = .ok (.iconst (-1), 1) := by decide +kernel
theorem d_Prophecy_init_21 : decode prog_5_method_1_code 21 = .ok (.putfield 21, 3) := by decide +kernel
theorem d_Prophecy_init_24 : decode prog_5_method_1_code 24 = .ok (.aload_n 0, 1) := by decide +kernel
theorem d_Prophecy_init_25 : decode prog_5_method_1_code 25 = .ok (.iconst 0, 1) := by decide +kernel
theorem d_Prophecy_init_26 : decode prog_5_method_1_code 26 = .ok (.putfield 24, 3) := by decide +kernel
theorem d_Prophecy_init_29 : decode prog_5_method_1_code 29 = .ok (.aload_n 0, 1) := by decide +kernel
theorem d_Prophecy_init_30 : decode prog_5_method_1_code 30 = .ok (.iconst 0, 1) := by decide +kernel
theorem d_Prophecy_init_31 : decode prog_5_method_1_code 31 = .ok (.putfield 27, 3) := by decide +kernel
theorem d_Prophecy_init_34 : decode prog_5_method_1_code 34 = .ok (.aload_n 0, 1) := by decide +kernel
theorem d_Prophecy_init_35 : decode prog_5_method_1_code 35 = .ok (.iconst 0, 1) := by decide +kernel
theorem d_Prophecy_init_36 : decode prog_5_method_1_code 36 = .ok (.putfield 30, 3) := by decide +kernel
theorem d_Prophecy_init_39 : decode prog_5_method_1_code 39 = .ok (.aload_n 0, 1) := by decide +kernel
theorem d_Prophecy_init_40 : decode prog_5_method_1_code 40 = .ok (.iconst 0, 1) := by decide +kernel
theorem d_Prophecy_init_41 : decode prog_5_method_1_code 41 = .ok (.putfield 33, 3) := by decide +kernel
theorem d_Prophecy_init_44 : decode prog_5_method_1_code 44 = .ok (.aload_n 0, 1) := by decide +kernel
theorem d_Prophecy_init_45 : decode prog_5_method_1_code 45 = .ok (.iconst 0, 1) := by decide +kernel
theorem d_Prophecy_init_46 : decode prog_5_method_1_code 46 = .ok (.putfield 36, 3) := by decide +kernel
theorem d_Prophecy_init_49 : decode prog_5_method_1_code 49 = .ok (.aload_n 0, 1) := by decide +kernel
theorem d_Prophecy_init_50 : decode prog_5_method_1_code 50 = .ok (.iconst 0, 1) := by decide +kernel
theorem d_Prophecy_init_51 : decode prog_5_method_1_code 51 = .ok (.putfield 39, 3) := by decide +kernel
theorem d_Prophecy_init_54 : decode prog_5_method_1_code 54 = .ok (.return_, 1) := by decide +kernel
theorem d_Reader_init_0 : decode prog_6_method_1_code 0 = .ok (.aload_n 0, 1) := by decide +kernel
theorem d_Reader_init_1 : decode prog_6_method_1_code 1 = .ok (.invokespecial 3, 3) := by decide +kernel
theorem d_Reader_init_4 : decode prog_6_method_1_code 4 = .ok (.aload_n 0, 1) := by decide +kernel
theorem d_Reader_init_5 : decode prog_6_method_1_code 5 = .ok (.iconst 0, 1) := by decide +kernel
theorem d_Reader_init_6 : decode prog_6_method_1_code 6 = .ok (.putfield 11, 3) := by decide +kernel
theorem d_Reader_init_9 : decode prog_6_method_1_code 9 = .ok (.aload_n 0, 1) := by decide +kernel
theorem d_Reader_init_10 : decode prog_6_method_1_code 10 = .ok (.iconst 0, 1) := by decide +kernel
theorem d_Reader_init_11 : decode prog_6_method_1_code 11 = .ok (.putfield 15, 3) := by decide +kernel
theorem d_Reader_init_14 : decode prog_6_method_1_code 14 = .ok (.aload_n 0, 1) := by decide +kernel
theorem d_Reader_init_15 : decode prog_6_method_1_code 15 = .ok (.iconst 0, 1) := by decide +kernel
theorem d_Reader_init_16 : decode prog_6_method_1_code 16 = .ok (.putfield 18, 3) := by decide +kernel
theorem d_Reader_init_19 : decode prog_6_method_1_code 19 = .ok (.aload_n 0, 1) := by decide +kernel
theorem d_Reader_init_20 : decode prog_6_method_1_code 20 = .ok (.iconst 0, 1) := by decide +kernel
theorem d_Reader_init_21 : decode prog_6_method_1_code 21 = .ok (.putfield 21, 3) := by decide +kernel
theorem d_Reader_init_24 : decode prog_6_method_1_code 24 = .ok (.aload_n 0, 1) := by decide +kernel
theorem d_Reader_init_25 : decode prog_6_method_1_code 25 = .ok (.iconst (-1), 1) := by decide +kernel
theorem d_Reader_init_26 : decode prog_6_method_1_code 26 = .ok (.putfield 24, 3) := by decide +kernel
theorem d_Reader_init_29 : decode prog_6_method_1_code 29 = .ok (.aload_n 0, 1) := by decide +kernel
theorem d_Reader_init_30 : decode prog_6_method_1_code 30 = .ok (.aload_n 1, 1) := by decide +kernel
theorem d_Reader_init_31 : decode prog_6_method_1_code 31 = .ok (.putfield 27, 3) := by decide +kernel
theorem d_Reader_init_34 : decode prog_6_method_1_code 34 = .ok (.return_, 1) := by decide +kernel
theorem d_Script_init_0 : decode prog_7_method_1_code 0 = .ok (.aload_n 0, 1) := by decide +kernel
theorem d_Script_init_1 : decode prog_7_method_1_code 1 = .ok (.aload_n 1, 1) := by decide +kernel
theorem d_Script_init_2 : decode prog_7_method_1_code 2 = .ok (.invokespecial 3, 3) := by decide +kernel
theorem d_Script_init_5 : decode prog_7_method_1_code 5 = .ok (.aload_n 0, 1) := by decide +kernel
theorem d_Script_init_6 : decode prog_7_method_1_code 6 = .ok (.bipush 60, 2) := by decide +kernel
theorem d_Script_init_8 : decode prog_7_method_1_code 8 = .ok (.anewarray 11, 3) := by decide +kernel
theorem d_Script_init_11 : decode prog_7_method_1_code 11 = .ok (.putfield 13, 3) := by decide +kernel
theorem d_Script_init_14 : decode prog_7_method_1_code 14 = .ok (.aload_n 0, 1) := by decide +kernel
theorem d_Script_init_15 : decode prog_7_method_1_code 15 = .ok (.iconst 0, 1) := by decide +kernel
theorem d_Script_init_16 : decode prog_7_method_1_code 16 = .ok (.putfield 17, 3) := by decide +kernel
theorem d_Script_init_19 : decode prog_7_method_1_code 19 = .ok (.aload_n 0, 1) := by decide +kernel
theorem d_Script_init_20 : decode prog_7_method_1_code 20 = .ok (.iconst 0, 1) := by decide +kernel
theorem d_Script_init_21 : decode prog_7_method_1_code 21 = .ok (.putfield 21, 3) := by decide +kernel
theorem d_Script_init_24 : decode prog_7_method_1_code 24 = .ok (.aload_n 0, 1) := by decide +kernel
theorem d_Script_init_25 : decode prog_7_method_1_code 25 = .ok (.iconst 2, 1) := by decide +kernel
theorem d_Script_init_26 : decode prog_7_method_1_code 26 = .ok (.newarray .int, 2) := by decide +kernel
theorem d_Script_init_28 : decode prog_7_method_1_code 28 = .ok (.putfield 24, 3) := by decide +kernel
theorem d_Script_init_31 : decode prog_7_method_1_code 31 = .ok (.aload_n 0, 1) := by decide +kernel
theorem d_Script_init_32 : decode prog_7_method_1_code 32 = .ok (.iconst 0, 1) := by decide +kernel
theorem d_Script_init_33 : decode prog_7_method_1_code 33 = .ok (.putfield 28, 3) := by decide +kernel
theorem d_Script_init_36 : decode prog_7_method_1_code 36 = .ok (.iconst 0, 1) := by decide +kernel
theorem d_Script_init_37 : decode prog_7_method_1_code 37 = .ok (.istore_n 2, 1) := by decide +kernel
theorem d_Script_init_38 : decode prog_7_method_1_code 38 = .ok (.iload_n 2, 1) := by decide +kernel
theorem d_Script_init_39 : decode prog_7_method_1_code 39 = .ok (.bipush 60, 2) := by decide +kernel
theorem d_Script_init_41 : decode prog_7_method_1_code 41 = .ok (.if_icmp .ge 22, 3) := by decide +kernel
theorem d_Script_init_44 : decode prog_7_method_1_code 44 = .ok (.aload_n 0, 1) := by decide +kernel
theorem d_Script_init_45 : decode prog_7_method_1_code 45 = .ok (.getfield 13, 3) := by decide +kernel
theorem d_Script_init_48 : decode prog_7_method_1_code 48 = .ok (.iload_n 2, 1) := by decide +kernel
theorem d_Script_init_49 : decode prog_7_method_1_code 49 = .ok (.new 11, 3) := by decide +kernel
theorem d_Script_init_52 : decode prog_7_method_1_code 52 = .ok (.dup, 1) := by decide +kernel
theorem d_Script_init_53 : decode prog_7_method_1_code 53 = .ok (.invokespecial 31, 3) := by decide +kernel
theorem d_Script_init_56 : decode prog_7_method_1_code 56 = .ok (.aastore, 1) := by decide +kernel
theorem d_Script_init_57 : decode prog_7_method_1_code 57 = .ok (.iinc 2 1, 3) := by decide +kernel
theorem d_Script_init_60 : decode prog_7_method_1_code 60 = .ok (.goto (-22), 3) := by decide +kernel
theorem d_Script_init_63 : decode prog_7_method_1_code 63 = .ok (.return_, 1) := by decide +kernel
theorem d_Setup_init_0 : decode prog_8_method_1_code 0 = .ok (.aload_n 0, 1) := by decide +kernel
theorem d_Setup_init_1 : decode prog_8_method_1_code 1 = .ok (.invokespecial 3, 3) := by decide +kernel
theorem d_Setup_init_4 : decode prog_8_method_1_code 4 = .ok (.aload_n 0, 1) := by decide +kernel
theorem d_Setup_init_5 : decode prog_8_method_1_code 5 = .ok (.iconst 0, 1) := by decide +kernel
theorem d_Setup_init_6 : decode prog_8_method_1_code 6 = .ok (.putfield 9, 3) := by decide +kernel
theorem d_Setup_init_9 : decode prog_8_method_1_code 9 = .ok (.aload_n 0, 1) := by decide +kernel
theorem d_Setup_init_10 : decode prog_8_method_1_code 10 = .ok (.iconst 0, 1) := by decide +kernel
theorem d_Setup_init_11 : decode prog_8_method_1_code 11 = .ok (.putfield 15, 3) := by decide +kernel
theorem d_Setup_init_14 : decode prog_8_method_1_code 14 = .ok (.aload_n 0, 1) := by decide +kernel
theorem d_Setup_init_15 : decode prog_8_method_1_code 15 = .ok (.iconst 0, 1) := by decide +kernel
theorem d_Setup_init_16 : decode prog_8_method_1_code 16 = .ok (.putfield 18, 3) := by decide +kernel
theorem d_Setup_init_19 : decode prog_8_method_1_code 19 = .ok (.aload_n 0, 1) := by decide +kernel
theorem d_Setup_init_20 : decode prog_8_method_1_code 20 = .ok (.iconst 0, 1) := by decide +kernel
theorem d_Setup_init_21 : decode prog_8_method_1_code 21 = .ok (.putfield 21, 3) := by decide +kernel
theorem d_Setup_init_24 : decode prog_8_method_1_code 24 = .ok (.aload_n 0, 1) := by decide +kernel
theorem d_Setup_init_25 : decode prog_8_method_1_code 25 = .ok (.iconst 0, 1) := by decide +kernel
theorem d_Setup_init_26 : decode prog_8_method_1_code 26 = .ok (.putfield 24, 3) := by decide +kernel
theorem d_Setup_init_29 : decode prog_8_method_1_code 29 = .ok (.aload_n 0, 1) := by decide +kernel
theorem d_Setup_init_30 : decode prog_8_method_1_code 30 = .ok (.new 27, 3) := by decide +kernel
theorem d_Setup_init_33 : decode prog_8_method_1_code 33 = .ok (.dup, 1) := by decide +kernel
theorem d_Setup_init_34 : decode prog_8_method_1_code 34 = .ok (.invokespecial 29, 3) := by decide +kernel
theorem d_Setup_init_37 : decode prog_8_method_1_code 37 = .ok (.putfield 30, 3) := by decide +kernel
theorem d_Setup_init_40 : decode prog_8_method_1_code 40 = .ok (.aload_n 0, 1) := by decide +kernel
theorem d_Setup_init_41 : decode prog_8_method_1_code 41 = .ok (.new 27, 3) := by decide +kernel
theorem d_Setup_init_44 : decode prog_8_method_1_code 44 = .ok (.dup, 1) := by decide +kernel
theorem d_Setup_init_45 : decode prog_8_method_1_code 45 = .ok (.invokespecial 29, 3) := by decide +kernel
theorem d_Setup_init_48 : decode prog_8_method_1_code 48 = .ok (.putfield 34, 3) := by decide +kernel
theorem d_Setup_init_51 : decode prog_8_method_1_code 51 = .ok (.aload_n 0, 1) := by decide +kernel
theorem d_Setup_init_52 : decode prog_8_method_1_code 52 = .ok (.new 27, 3) := by decide +kernel
theorem d_Setup_init_55 : decode prog_8_method_1_code 55 = .ok (.dup, 1) := by decide +kernel
theorem d_Setup_init_56 : decode prog_8_method_1_code 56 = .ok (.invokespecial 29, 3) := by decide +kernel
theorem d_Setup_init_59 : decode prog_8_method_1_code 59 = .ok (.putfield 37, 3) := by decide +kernel
theorem d_Setup_init_62 : decode prog_8_method_1_code 62 = .ok (.aload_n 0, 1) := by decide +kernel
theorem d_Setup_init_63 : decode prog_8_method_1_code 63 = .ok (.bipush 8, 2) := by decide +kernel
theorem d_Setup_init_65 : decode prog_8_method_1_code 65 = .ok (.newarray .int, 2) := by decide +kernel
theorem d_Setup_init_67 : decode prog_8_method_1_code 67 = .ok (.putfield 40, 3) := by decide +kernel
theorem d_Setup_init_70 : decode prog_8_method_1_code 70 = .ok (.aload_n 0, 1) := by decide +kernel
theorem d_Setup_init_71 : decode prog_8_method_1_code 71 = .ok (.bipush 8, 2) := by decide +kernel
theorem d_Setup_init_73 : decode prog_8_method_1_code 73 = .ok (.newarray .int, 2) := by decide +kernel
theorem d_Setup_init_75 : decode prog_8_method_1_code 75 = .ok (.putfield 44, 3) := by decide +kernel
theorem d_Setup_init_78 : decode prog_8_method_1_code 78 = .ok (.aload_n 0, 1) := by decide +kernel
theorem d_Setup_init_79 : decode prog_8_method_1_code 79 = .ok (.iconst 5, 1) := by decide +kernel
theorem d_Setup_init_80 : decode prog_8_method_1_code 80 = .ok (.newarray .int, 2) := by decide +kernel
theorem d_Setup_init_82 : decode prog_8_method_1_code 82 = .ok (.putfield 47, 3) := by decide +kernel
theorem d_Setup_init_85 : decode prog_8_method_1_code 85 = .ok (.aload_n 0, 1) := by decide +kernel
theorem d_Setup_init_86 : decode prog_8_method_1_code 86 = .ok (.iconst 0, 1) := by decide +kernel
theorem d_Setup_init_87 : decode prog_8_method_1_code 87 = .ok (.putfield 50, 3) := by decide +kernel
theorem d_Setup_init_90 : decode prog_8_method_1_code 90 = .ok (.return_, 1) := by decide +kernel
theorem d_SetupReader_init_0 : decode prog_9_method_1_code 0 = .ok (.aload_n 0, 1) := by decide +kernel
theorem d_SetupReader_init_1 : decode prog_9_method_1_code 1 = .ok (.aload_n 1, 1) := by decide +kernel
theorem d_SetupReader_init_2 : decode prog_9_method_1_code 2 = .ok (.invokespecial 3, 3) := by decide +kernel
theorem d_SetupReader_init_5 : decode prog_9_method_1_code 5 = .ok (.return_, 1) := by decide +kernel
theorem d_Shop_init_0 : decode prog_10_method_1_code 0 = .ok (.aload_n 0, 1) := by decide +kernel
theorem d_Shop_init_1 : decode prog_10_method_1_code 1 = .ok (.invokespecial 3, 3) := by decide +kernel
theorem d_Shop_init_4 : decode prog_10_method_1_code 4 = .ok (.aload_n 0, 1) := by decide +kernel
theorem d_Shop_init_5 : decode prog_10_method_1_code 5 = .ok (.iconst 0, 1) := by decide +kernel
theorem d_Shop_init_6 : decode prog_10_method_1_code 6 = .ok (.putfield 9, 3) := by decide +kernel
theorem d_Shop_init_9 : decode prog_10_method_1_code 9 = .ok (.aload_n 0, 1) := by decide +kernel
theorem d_Shop_init_10 : decode prog_10_method_1_code 10 = .ok (.iconst 0, 1) := by decide +kernel
theorem d_Shop_init_11 : decode prog_10_method_1_code 11 = .ok (.putfield 15, 3) := by decide +kernel
theorem d_Shop_init_14 : decode prog_10_method_1_code 14 = .ok (.aload_n 0, 1) := by decide +kernel
theorem d_Shop_init_15 : decode prog_10_method_1_code 15 = .ok (.bipush 8, 2) := by decide +kernel
theorem d_Shop_init_17 : decode prog_10_method_1_code 17 = .ok (.newarray .int, 2) := by decide +kernel
theorem d_Shop_init_19 : decode prog_10_method_1_code 19 = .ok (.putfield 18, 3) := by decide +kernel
theorem d_Shop_init_22 : decode prog_10_method_1_code 22 = .ok (.aload_n 0, 1) := by decide +kernel
theorem d_Shop_init_23 : decode prog_10_method_1_code 23 = .ok (.bipush 24, 2) := by decide +kernel
theorem d_Shop_init_25 : decode prog_10_method_1_code 25 = .ok (.anewarray 22, 3) := by decide +kernel
theorem d_Shop_init_28 : decode prog_10_method_1_code 28 = .ok (.putfield 24, 3) := by decide +kernel
theorem d_Shop_init_31 : decode prog_10_method_1_code 31 = .ok (.aload_n 0, 1) := by decide +kernel
theorem d_Shop_init_32 : decode prog_10_method_1_code 32 = .ok (.iconst 0, 1) := by decide +kernel
theorem d_Shop_init_33 : decode prog_10_method_1_code 33 = .ok (.putfield 28, 3) := by decide +kernel
theorem d_Shop_init_36 : decode prog_10_method_1_code 36 = .ok (.aload_n 0, 1) := by decide +kernel
theorem d_Shop_init_37 : decode prog_10_method_1_code 37 = .ok (.iconst 5, 1) := by decide +kernel
theorem d_Shop_init_38 : decode prog_10_method_1_code 38 = .ok (.anewarray 31, 3) := by decide +kernel
theorem d_Shop_init_41 : decode prog_10_method_1_code 41 = .ok (.putfield 33, 3) := by decide +kernel
theorem d_Shop_init_44 : decode prog_10_method_1_code 44 = .ok (.aload_n 0, 1) := by decide +kernel
theorem d_Shop_init_45 : decode prog_10_method_1_code 45 = .ok (.bipush 24, 2) := by decide +kernel
theorem d_Shop_init_47 : decode prog_10_method_1_code 47 = .ok (.newarray .int, 2) := by decide +kernel
theorem d_Shop_init_49 : decode prog_10_method_1_code 49 = .ok (.putfield 37, 3) := by decide +kernel
theorem d_Shop_init_52 : decode prog_10_method_1_code 52 = .ok (.aload_n 0, 1) := by decide +kernel
theorem d_Shop_init_53 : decode prog_10_method_1_code 53 = .ok (.iconst 0, 1) := by decide +kernel
theorem d_Shop_init_54 : decode prog_10_method_1_code 54 = .ok (.putfield 40, 3) := by decide +kernel
theorem d_Shop_init_57 : decode prog_10_method_1_code 57 = .ok (.aload_n 0, 1) := by decide +kernel
theorem d_Shop_init_58 : decode prog_10_method_1_code 58 = .ok (.bipush 60, 2) := by decide +kernel
theorem d_Shop_init_60 : decode prog_10_method_1_code 60 = .ok (.newarray .int, 2) := by decide +kernel
theorem d_Shop_init_62 : decode prog_10_method_1_code 62 = .ok (.putfield 43, 3) := by decide +kernel
theorem d_Shop_init_65 : decode prog_10_method_1_code 65 = .ok (.aload_n 0, 1) := by decide +kernel
theorem d_Shop_init_66 : decode prog_10_method_1_code 66 = .ok (.bipush 60, 2) := by decide +kernel
theorem d_Shop_init_68 : decode prog_10_method_1_code 68 = .ok (.newarray .int, 2) := by decide +kernel
theorem d_Shop_init_70 : decode prog_10_method_1_code 70 = .ok (.putfield 46, 3) := by decide +kernel
theorem d_Shop_init_73 : decode prog_10_method_1_code 73 = .ok (.aload_n 0, 1) := by decide +kernel
theorem d_Shop_init_74 : decode prog_10_method_1_code 74 = .ok (.bipush 60, 2) := by decide +kernel
theorem d_Shop_init_76 : decode prog_10_method_1_code 76 = .ok (.newarray .int, 2) := by decide +kernel
theorem d_Shop_init_78 : decode prog_10_method_1_code 78 = .ok (.putfield 49, 3) := by decide +kernel
theorem d_Shop_init_81 : decode prog_10_method_1_code 81 = .ok (.aload_n 0, 1) := by decide +kernel
theorem d_Shop_init_82 : decode prog_10_method_1_code 82 = .ok (.iconst 0, 1) := by decide +kernel
theorem d_Shop_init_83 : decode prog_10_method_1_code 83 = .ok (.putfield 52, 3) := by decide +kernel
theorem d_Shop_init_86 : decode prog_10_method_1_code 86 = .ok (.aload_n 0, 1) := by decide +kernel
theorem d_Shop_init_87 : decode prog_10_method_1_code 87 = .ok (.iconst 0, 1) := by decide +kernel
theorem d_Shop_init_88 : decode prog_10_method_1_code 88 = .ok (.putfield 55, 3) := by decide +kernel
theorem d_Shop_init_91 : decode prog_10_method_1_code 91 = .ok (.aload_n 0, 1) := by decide +kernel
theorem d_Shop_init_92 : decode prog_10_method_1_code 92 = .ok (.iconst 0, 1) := by decide +kernel
theorem d_Shop_init_93 : decode prog_10_method_1_code 93 = .ok (.putfield 58, 3) := by decide +kernel
theorem d_Shop_init_96 : decode prog_10_method_1_code 96 = .ok (.aload_n 0, 1) := by decide +kernel
theorem d_Shop_init_97 : decode prog_10_method_1_code 97 = .ok (.aload_n 1, 1) := by decide +kernel
theorem d_Shop_init_98 : decode prog_10_method_1_code 98 = .ok (.putfield 61, 3) := by decide +kernel
theorem d_Shop_init_101 : decode prog_10_method_1_code 101 = .ok (.iconst 0, 1) := by decide +kernel
theorem d_Shop_init_102 : decode prog_10_method_1_code 102 = .ok (.istore_n 2, 1) := by decide +kernel
theorem d_Shop_init_103 : decode prog_10_method_1_code 103 = .ok (.iload_n 2, 1) := by decide +kernel
theorem d_Shop_init_104 : decode prog_10_method_1_code 104 = .ok (.bipush 24, 2) := by decide +kernel
theorem d_Shop_init_106 : decode prog_10_method_1_code 106 = .ok (.if_icmp .ge 22, 3) := by decide +kernel
theorem d_Shop_init_109 : decode prog_10_method_1_code 109 = .ok (.aload_n 0, 1) := by decide +kernel
theorem d_Shop_init_110 : decode prog_10_method_1_code 110 = .ok (.getfield 24, 3) := by decide +kernel
theorem d_Shop_init_113 : decode prog_10_method_1_code 113 = .ok (.iload_n 2, 1) := by decide +kernel
theorem d_Shop_init_114 : decode prog_10_method_1_code 114 = .ok (.new 22, 3) := by decide +kernel
theorem d_Shop_init_117 : decode prog_10_method_1_code 117 = .ok (.dup, 1) := by decide +kernel
theorem d_Shop_init_118 : decode prog_10_method_1_code 118 = .ok (.invokespecial 65, 3) := by decide +kernel
theorem d_Shop_init_121 : decode prog_10_method_1_code 121 = .ok (.aastore, 1) := by decide +kernel
theorem d_Shop_init_122 : decode prog_10_method_1_code 122 = .ok (.iinc 2 1, 3) := by decide +kernel
theorem d_Shop_init_125 : decode prog_10_method_1_code 125 = .ok (.goto (-22), 3) := by decide +kernel
theorem d_Shop_init_128 : decode prog_10_method_1_code 128 = .ok (.iconst 0, 1) := by decide +kernel
theorem d_Shop_init_129 : decode prog_10_method_1_code 129 = .ok (.istore_n 2, 1) := by decide +kernel
theorem d_Shop_init_130 : decode prog_10_method_1_code 130 = .ok (.iload_n 2, 1) := by decide +kernel
theorem d_Shop_init_131 : decode prog_10_method_1_code 131 = .ok (.iconst 5, 1) := by decide +kernel
theorem d_Shop_init_132 : decode prog_10_method_1_code 132 = .ok (.if_icmp .ge 22, 3) := by decide +kernel
theorem d_Shop_init_135 : decode prog_10_method_1_code 135 = .ok (.aload_n 0, 1) := by decide +kernel
theorem d_Shop_init_136 : decode prog_10_method_1_code 136 = .ok (.getfield 33, 3) := by decide +kernel
theorem d_Shop_init_139 : decode prog_10_method_1_code 139 = .ok (.iload_n 2, 1) := by decide +kernel
theorem d_Shop_init_140 : decode prog_10_method_1_code 140 = .ok (.new 31, 3) := by decide +kernel
theorem d_Shop_init_143 : decode prog_10_method_1_code 143 = .ok (.dup, 1) := by decide +kernel
theorem d_Shop_init_144 : decode prog_10_method_1_code 144 = .ok (.invokespecial 66, 3) := by decide +kernel
theorem d_Shop_init_147 : decode prog_10_method_1_code 147 = .ok (.aastore, 1) := by decide +kernel
theorem d_Shop_init_148 : decode prog_10_method_1_code 148 = .ok (.iinc 2 1, 3) := by decide +kernel
theorem d_Shop_init_151 : decode prog_10_method_1_code 151 = .ok (.goto (-21), 3) := by decide +kernel
theorem d_Shop_init_154 : decode prog_10_method_1_code 154 = .ok (.return_, 1) := by decide +kernel
theorem d_Step_init_0 : decode prog_11_method_1_code 0 = .ok (.aload_n 0, 1) := by decide +kernel
theorem d_Step_init_1 : decode prog_11_method_1_code 1 = .ok (.invokespecial 3, 3) := by decide +kernel
theorem d_Step_init_4 : decode prog_11_method_1_code 4 = .ok (.aload_n 0, 1) := by decide +kernel
theorem d_Step_init_5 : decode prog_11_method_1_code 5 = .ok (.iconst 0, 1) := by decide +kernel
theorem d_Step_init_6 : decode prog_11_method_1_code 6 = .ok (.putfield 11, 3) := by decide +kernel
theorem d_Step_init_9 : decode prog_11_method_1_code 9 = .ok (.aload_n 0, 1) := by decide +kernel
theorem d_Step_init_10 : decode prog_11_method_1_code 10 = .ok (.iconst 0, 1) := by decide +kernel
theorem d_Step_init_11 : decode prog_11_method_1_code 11 = .ok (.putfield 15, 3) := by decide +kernel
theorem d_Step_init_14 : decode prog_11_method_1_code 14 = .ok (.aload_n 0, 1) := by decide +kernel
theorem d_Step_init_15 : decode prog_11_method_1_code 15 = .ok (.iconst 0, 1) := by decide +kernel
theorem d_Step_init_16 : decode prog_11_method_1_code 16 = .ok (.putfield 18, 3) := by decide +kernel
theorem d_Step_init_19 : decode prog_11_method_1_code 19 = .ok (.aload_n 0, 1) := by decide +kernel
theorem d_Step_init_20 : decode prog_11_method_1_code 20 = .ok (.iconst 0, 1) := by decide +kernel
theorem d_Step_init_21 : decode prog_11_method_1_code 21 = .ok (.putfield 21, 3) := by decide +kernel
theorem d_Step_init_24 : decode prog_11_method_1_code 24 = .ok (.aload_n 0, 1) := by decide +kernel
theorem d_Step_init_25 : decode prog_11_method_1_code 25 = .ok (.iconst (-1), 1) := by decide +kernel
theorem d_Step_init_26 : decode prog_11_method_1_code 26 = .ok (.putfield 24, 3) := by decide +kernel
theorem d_Step_init_29 : decode prog_11_method_1_code 29 = .ok (.aload_n 0, 1) := by decide +kernel
theorem d_Step_init_30 : decode prog_11_method_1_code 30 = .ok (.iconst 0, 1) := by decide +kernel
theorem d_Step_init_31 : decode prog_11_method_1_code 31 = .ok (.putfield 27, 3) := by decide +kernel
theorem d_Step_init_34 : decode prog_11_method_1_code 34 = .ok (.aload_n 0, 1) := by decide +kernel
theorem d_Step_init_35 : decode prog_11_method_1_code 35 = .ok (.iconst 0, 1) := by decide +kernel
theorem d_Step_init_36 : decode prog_11_method_1_code 36 = .ok (.putfield 30, 3) := by decide +kernel
theorem d_Step_init_39 : decode prog_11_method_1_code 39 = .ok (.aload_n 0, 1) := by decide +kernel
theorem d_Step_init_40 : decode prog_11_method_1_code 40 = .ok (.iconst 0, 1) := by decide +kernel
theorem d_Step_init_41 : decode prog_11_method_1_code 41 = .ok (.putfield 33, 3) := by decide +kernel
theorem d_Step_init_44 : decode prog_11_method_1_code 44 = .ok (.aload_n 0, 1) := by decide +kernel
theorem d_Step_init_45 : decode prog_11_method_1_code 45 = .ok (.iconst 0, 1) := by decide +kernel
theorem d_Step_init_46 : decode prog_11_method_1_code 46 = .ok (.putfield 36, 3) := by decide +kernel
theorem d_Step_init_49 : decode prog_11_method_1_code 49 = .ok (.aload_n 0, 1) := by decide +kernel
theorem d_Step_init_50 : decode prog_11_method_1_code 50 = .ok (.iconst 0, 1) := by decide +kernel
theorem d_Step_init_51 : decode prog_11_method_1_code 51 = .ok (.putfield 39, 3) := by decide +kernel
theorem d_Step_init_54 : decode prog_11_method_1_code 54 = .ok (.aload_n 0, 1) := by decide +kernel
theorem d_Step_init_55 : decode prog_11_method_1_code 55 = .ok (.iconst 0, 1) := by decide +kernel
theorem d_Step_init_56 : decode prog_11_method_1_code 56 = .ok (.putfield 42, 3) := by decide +kernel
theorem d_Step_init_59 : decode prog_11_method_1_code 59 = .ok (.return_, 1) := by decide +kernel
theorem d_Text_init_0 : decode prog_12_method_1_code 0 = .ok (.aload_n 0, 1) := by decide +kernel
theorem d_Text_init_1 : decode prog_12_method_1_code 1 = .ok (.invokespecial 3, 3) := by decide +kernel
theorem d_Text_init_4 : decode prog_12_method_1_code 4 = .ok (.aload_n 0, 1) := by decide +kernel
theorem d_Text_init_5 : decode prog_12_method_1_code 5 = .ok (.sipush 800, 3) := by decide +kernel
theorem d_Text_init_8 : decode prog_12_method_1_code 8 = .ok (.newarray .int, 2) := by decide +kernel
theorem d_Text_init_10 : decode prog_12_method_1_code 10 = .ok (.putfield 9, 3) := by decide +kernel
theorem d_Text_init_13 : decode prog_12_method_1_code 13 = .ok (.aload_n 0, 1) := by decide +kernel
theorem d_Text_init_14 : decode prog_12_method_1_code 14 = .ok (.iconst 0, 1) := by decide +kernel
theorem d_Text_init_15 : decode prog_12_method_1_code 15 = .ok (.putfield 15, 3) := by decide +kernel
theorem d_Text_init_18 : decode prog_12_method_1_code 18 = .ok (.return_, 1) := by decide +kernel
theorem d_P_init_0 : decode prog_1_method_1_code 0 = .ok (.aload_n 0, 1) := by decide +kernel
theorem d_P_init_1 : decode prog_1_method_1_code 1 = .ok (.invokespecial 1, 3) := by decide +kernel
theorem d_P_init_4 : decode prog_1_method_1_code 4 = .ok (.aload_n 0, 1) := by decide +kernel
theorem d_P_init_5 : decode prog_1_method_1_code 5 = .ok (.new 7, 3) := by decide +kernel
theorem d_P_init_8 : decode prog_1_method_1_code 8 = .ok (.dup, 1) := by decide +kernel
theorem d_P_init_9 : decode prog_1_method_1_code 9 = .ok (.invokespecial 9, 3) := by decide +kernel
theorem d_P_init_12 : decode prog_1_method_1_code 12 = .ok (.putfield 10, 3) := by decide +kernel
theorem d_P_init_15 : decode prog_1_method_1_code 15 = .ok (.aload_n 0, 1) := by decide +kernel
theorem d_P_init_16 : decode prog_1_method_1_code 16 = .ok (.new 16, 3) := by decide +kernel
theorem d_P_init_19 : decode prog_1_method_1_code 19 = .ok (.dup, 1) := by decide +kernel
theorem d_P_init_20 : decode prog_1_method_1_code 20 = .ok (.aload_n 0, 1) := by decide +kernel
theorem d_P_init_21 : decode prog_1_method_1_code 21 = .ok (.getfield 10, 3) := by decide +kernel
theorem d_P_init_24 : decode prog_1_method_1_code 24 = .ok (.invokespecial 18, 3) := by decide +kernel
theorem d_P_init_27 : decode prog_1_method_1_code 27 = .ok (.putfield 21, 3) := by decide +kernel
theorem d_P_init_30 : decode prog_1_method_1_code 30 = .ok (.aload_n 0, 1) := by decide +kernel
theorem d_P_init_31 : decode prog_1_method_1_code 31 = .ok (.new 25, 3) := by decide +kernel
theorem d_P_init_34 : decode prog_1_method_1_code 34 = .ok (.dup, 1) := by decide +kernel
theorem d_P_init_35 : decode prog_1_method_1_code 35 = .ok (.aload_n 0, 1) := by decide +kernel
theorem d_P_init_36 : decode prog_1_method_1_code 36 = .ok (.getfield 10, 3) := by decide +kernel
theorem d_P_init_39 : decode prog_1_method_1_code 39 = .ok (.invokespecial 27, 3) := by decide +kernel
theorem d_P_init_42 : decode prog_1_method_1_code 42 = .ok (.putfield 28, 3) := by decide +kernel
theorem d_P_init_45 : decode prog_1_method_1_code 45 = .ok (.aload_n 0, 1) := by decide +kernel
theorem d_P_init_46 : decode prog_1_method_1_code 46 = .ok (.new 32, 3) := by decide +kernel
theorem d_P_init_49 : decode prog_1_method_1_code 49 = .ok (.dup, 1) := by decide +kernel
theorem d_P_init_50 : decode prog_1_method_1_code 50 = .ok (.invokespecial 34, 3) := by decide +kernel
theorem d_P_init_53 : decode prog_1_method_1_code 53 = .ok (.putfield 35, 3) := by decide +kernel
theorem d_P_init_56 : decode prog_1_method_1_code 56 = .ok (.aload_n 0, 1) := by decide +kernel
theorem d_P_init_57 : decode prog_1_method_1_code 57 = .ok (.new 32, 3) := by decide +kernel
theorem d_P_init_60 : decode prog_1_method_1_code 60 = .ok (.dup, 1) := by decide +kernel
theorem d_P_init_61 : decode prog_1_method_1_code 61 = .ok (.invokespecial 34, 3) := by decide +kernel
theorem d_P_init_64 : decode prog_1_method_1_code 64 = .ok (.putfield 39, 3) := by decide +kernel
theorem d_P_init_67 : decode prog_1_method_1_code 67 = .ok (.aload_n 0, 1) := by decide +kernel
theorem d_P_init_68 : decode prog_1_method_1_code 68 = .ok (.new 42, 3) := by decide +kernel
theorem d_P_init_71 : decode prog_1_method_1_code 71 = .ok (.dup, 1) := by decide +kernel
theorem d_P_init_72 : decode prog_1_method_1_code 72 = .ok (.aload_n 0, 1) := by decide +kernel
theorem d_P_init_73 : decode prog_1_method_1_code 73 = .ok (.getfield 35, 3) := by decide +kernel
theorem d_P_init_76 : decode prog_1_method_1_code 76 = .ok (.invokespecial 44, 3) := by decide +kernel
theorem d_P_init_79 : decode prog_1_method_1_code 79 = .ok (.putfield 47, 3) := by decide +kernel
theorem d_P_init_82 : decode prog_1_method_1_code 82 = .ok (.aload_n 0, 1) := by decide +kernel
theorem d_P_init_83 : decode prog_1_method_1_code 83 = .ok (.new 42, 3) := by decide +kernel
theorem d_P_init_86 : decode prog_1_method_1_code 86 = .ok (.dup, 1) := by decide +kernel
theorem d_P_init_87 : decode prog_1_method_1_code 87 = .ok (.aload_n 0, 1) := by decide +kernel
theorem d_P_init_88 : decode prog_1_method_1_code 88 = .ok (.getfield 35, 3) := by decide +kernel
theorem d_P_init_91 : decode prog_1_method_1_code 91 = .ok (.invokespecial 44, 3) := by decide +kernel
theorem d_P_init_94 : decode prog_1_method_1_code 94 = .ok (.putfield 51, 3) := by decide +kernel
theorem d_P_init_97 : decode prog_1_method_1_code 97 = .ok (.aload_n 0, 1) := by decide +kernel
theorem d_P_init_98 : decode prog_1_method_1_code 98 = .ok (.new 54, 3) := by decide +kernel
theorem d_P_init_101 : decode prog_1_method_1_code 101 = .ok (.dup, 1) := by decide +kernel
theorem d_P_init_102 : decode prog_1_method_1_code 102 = .ok (.aload_n 0, 1) := by decide +kernel
theorem d_P_init_103 : decode prog_1_method_1_code 103 = .ok (.getfield 35, 3) := by decide +kernel
theorem d_P_init_106 : decode prog_1_method_1_code 106 = .ok (.invokespecial 56, 3) := by decide +kernel
theorem d_P_init_109 : decode prog_1_method_1_code 109 = .ok (.putfield 57, 3) := by decide +kernel
theorem d_P_init_112 : decode prog_1_method_1_code 112 = .ok (.aload_n 0, 1) := by decide +kernel
theorem d_P_init_113 : decode prog_1_method_1_code 113 = .ok (.iconst 2, 1) := by decide +kernel
theorem d_P_init_114 : decode prog_1_method_1_code 114 = .ok (.anewarray 42, 3) := by decide +kernel
theorem d_P_init_117 : decode prog_1_method_1_code 117 = .ok (.putfield 61, 3) := by decide +kernel
theorem d_P_init_120 : decode prog_1_method_1_code 120 = .ok (.aload_n 0, 1) := by decide +kernel
theorem d_P_init_121 : decode prog_1_method_1_code 121 = .ok (.iconst 2, 1) := by decide +kernel
theorem d_P_init_122 : decode prog_1_method_1_code 122 = .ok (.newarray .boolean, 2) := by decide +kernel
theorem d_P_init_124 : decode prog_1_method_1_code 124 = .ok (.putfield 65, 3) := by decide +kernel
theorem d_P_init_127 : decode prog_1_method_1_code 127 = .ok (.aload_n 0, 1) := by decide +kernel
theorem d_P_init_128 : decode prog_1_method_1_code 128 = .ok (.iconst 0, 1) := by decide +kernel
theorem d_P_init_129 : decode prog_1_method_1_code 129 = .ok (.putfield 69, 3) := by decide +kernel
theorem d_P_init_132 : decode prog_1_method_1_code 132 = .ok (.aload_n 0, 1) := by decide +kernel
theorem d_P_init_133 : decode prog_1_method_1_code 133 = .ok (.iconst (-1), 1) := by decide +kernel
theorem d_P_init_134 : decode prog_1_method_1_code 134 = .ok (.putfield 73, 3) := by decide +kernel
theorem d_P_init_137 : decode prog_1_method_1_code 137 = .ok (.aload_n 0, 1) := by decide +kernel
theorem d_P_init_138 : decode prog_1_method_1_code 138 = .ok (.ldc 76, 2) := by decide +kernel
theorem d_P_init_140 : decode prog_1_method_1_code 140 = .ok (.putfield 78, 3) := by decide +kernel
theorem d_P_init_143 : decode prog_1_method_1_code 143 = .ok (.iconst 0, 1) := by decide +kernel
theorem d_P_init_144 : decode prog_1_method_1_code 144 = .ok (.istore_n 1, 1) := by decide +kernel
theorem d_P_init_145 : decode prog_1_method_1_code 145 = .ok (.iload_n 1, 1) := by decide +kernel
theorem d_P_init_146 : decode prog_1_method_1_code 146 = .ok (.iconst 2, 1) := by decide +kernel
theorem d_P_init_147 : decode prog_1_method_1_code 147 = .ok (.if_icmp .ge 26, 3) := by decide +kernel
theorem d_P_init_150 : decode prog_1_method_1_code 150 = .ok (.aload_n 0, 1) := by decide +kernel
theorem d_P_init_151 : decode prog_1_method_1_code 151 = .ok (.getfield 61, 3) := by decide +kernel
theorem d_P_init_154 : decode prog_1_method_1_code 154 = .ok (.iload_n 1, 1) := by decide +kernel
theorem d_P_init_155 : decode prog_1_method_1_code 155 = .ok (.new 42, 3) := by decide +kernel
theorem d_P_init_158 : decode prog_1_method_1_code 158 = .ok (.dup, 1) := by decide +kernel
theorem d_P_init_159 : decode prog_1_method_1_code 159 = .ok (.aload_n 0, 1) := by decide +kernel
theorem d_P_init_160 : decode prog_1_method_1_code 160 = .ok (.getfield 35, 3) := by decide +kernel
theorem d_P_init_163 : decode prog_1_method_1_code 163 = .ok (.invokespecial 44, 3) := by decide +kernel
theorem d_P_init_166 : decode prog_1_method_1_code 166 = .ok (.aastore, 1) := by decide +kernel
theorem d_P_init_167 : decode prog_1_method_1_code 167 = .ok (.iinc 1 1, 3) := by decide +kernel
theorem d_P_init_170 : decode prog_1_method_1_code 170 = .ok (.goto (-25), 3) := by decide +kernel
theorem d_P_init_173 : decode prog_1_method_1_code 173 = .ok (.iconst 0, 1) := by decide +kernel
theorem d_P_init_174 : decode prog_1_method_1_code 174 = .ok (.istore_n 1, 1) := by decide +kernel
theorem d_P_init_175 : decode prog_1_method_1_code 175 = .ok (.iload_n 1, 1) := by decide +kernel
theorem d_P_init_176 : decode prog_1_method_1_code 176 = .ok (.ldc 82, 2) := by decide +kernel
theorem d_P_init_178 : decode prog_1_method_1_code 178 = .ok (.invokevirtual 84, 3) := by decide +kernel
theorem d_P_init_181 : decode prog_1_method_1_code 181 = .ok (.if_icmp .ge 22, 3) := by decide +kernel
theorem d_P_init_184 : decode prog_1_method_1_code 184 = .ok (.aload_n 0, 1) := by decide +kernel
theorem d_P_init_185 : decode prog_1_method_1_code 185 = .ok (.getfield 10, 3) := by decide +kernel
theorem d_P_init_188 : decode prog_1_method_1_code 188 = .ok (.ldc 82, 2) := by decide +kernel
theorem d_P_init_190 : decode prog_1_method_1_code 190 = .ok (.iload_n 1, 1) := by decide +kernel
theorem d_P_init_191 : decode prog_1_method_1_code 191 = .ok (.invokevirtual 90, 3) := by decide +kernel
theorem d_P_init_194 : decode prog_1_method_1_code 194 = .ok (.invokevirtual 94, 3) := by decide +kernel
theorem d_P_init_197 : decode prog_1_method_1_code 197 = .ok (.iinc 1 1, 3) := by decide +kernel
theorem d_P_init_200 : decode prog_1_method_1_code 200 = .ok (.goto (-25), 3) := by decide +kernel
theorem d_P_init_203 : decode prog_1_method_1_code 203 = .ok (.aload_n 0, 1) := by decide +kernel
theorem d_P_init_204 : decode prog_1_method_1_code 204 = .ok (.invokevirtual 98, 3) := by decide +kernel
theorem d_P_init_207 : decode prog_1_method_1_code 207 = .ok (.pop, 1) := by decide +kernel
theorem d_P_init_208 : decode prog_1_method_1_code 208 = .ok (.return_, 1) := by decide +kernel
theorem d_Own_init_0 : decode prog_14_method_1_code 0 = .ok (.aload_n 0, 1) := by decide +kernel
theorem d_Own_init_1 : decode prog_14_method_1_code 1 = .ok (.invokespecial 1, 3) := by decide +kernel
theorem d_Own_init_4 : decode prog_14_method_1_code 4 = .ok (.aload_n 0, 1) := by decide +kernel
theorem d_Own_init_5 : decode prog_14_method_1_code 5 = .ok (.bipush 8, 2) := by decide +kernel
theorem d_Own_init_7 : decode prog_14_method_1_code 7 = .ok (.newarray .int, 2) := by decide +kernel
theorem d_Own_init_9 : decode prog_14_method_1_code 9 = .ok (.putfield 7, 3) := by decide +kernel
theorem d_Own_init_12 : decode prog_14_method_1_code 12 = .ok (.aload_n 0, 1) := by decide +kernel
theorem d_Own_init_13 : decode prog_14_method_1_code 13 = .ok (.bipush 8, 2) := by decide +kernel
theorem d_Own_init_15 : decode prog_14_method_1_code 15 = .ok (.newarray .int, 2) := by decide +kernel
theorem d_Own_init_17 : decode prog_14_method_1_code 17 = .ok (.putfield 13, 3) := by decide +kernel
theorem d_Own_init_20 : decode prog_14_method_1_code 20 = .ok (.aload_n 0, 1) := by decide +kernel
theorem d_Own_init_21 : decode prog_14_method_1_code 21 = .ok (.iconst 5, 1) := by decide +kernel
theorem d_Own_init_22 : decode prog_14_method_1_code 22 = .ok (.newarray .int, 2) := by decide +kernel
theorem d_Own_init_24 : decode prog_14_method_1_code 24 = .ok (.putfield 16, 3) := by decide +kernel
theorem d_Own_init_27 : decode prog_14_method_1_code 27 = .ok (.aload_n 0, 1) := by decide +kernel
theorem d_Own_init_28 : decode prog_14_method_1_code 28 = .ok (.iconst 5, 1) := by decide +kernel
theorem d_Own_init_29 : decode prog_14_method_1_code 29 = .ok (.newarray .int, 2) := by decide +kernel
theorem d_Own_init_31 : decode prog_14_method_1_code 31 = .ok (.putfield 19, 3) := by decide +kernel
theorem d_Own_init_34 : decode prog_14_method_1_code 34 = .ok (.aload_n 0, 1) := by decide +kernel
theorem d_Own_init_35 : decode prog_14_method_1_code 35 = .ok (.iconst 5, 1) := by decide +kernel
theorem d_Own_init_36 : decode prog_14_method_1_code 36 = .ok (.newarray .int, 2) := by decide +kernel
theorem d_Own_init_38 : decode prog_14_method_1_code 38 = .ok (.putfield 22, 3) := by decide +kernel
theorem d_Own_init_41 : decode prog_14_method_1_code 41 = .ok (.aload_n 0, 1) := by decide +kernel
theorem d_Own_init_42 : decode prog_14_method_1_code 42 = .ok (.iconst 5, 1) := by decide +kernel
theorem d_Own_init_43 : decode prog_14_method_1_code 43 = .ok (.newarray .int, 2) := by decide +kernel
theorem d_Own_init_45 : decode prog_14_method_1_code 45 = .ok (.putfield 25, 3) := by decide +kernel
theorem d_Own_init_48 : decode prog_14_method_1_code 48 = .ok (.aload_n 0, 1) := by decide +kernel
theorem d_Own_init_49 : decode prog_14_method_1_code 49 = .ok (.iconst 5, 1) := by decide +kernel
theorem d_Own_init_50 : decode prog_14_method_1_code 50 = .ok (.newarray .int, 2) := by decide +kernel
theorem d_Own_init_52 : decode prog_14_method_1_code 52 = .ok (.putfield 28, 3) := by decide +kernel
theorem d_Own_init_55 : decode prog_14_method_1_code 55 = .ok (.aload_n 0, 1) := by decide +kernel
theorem d_Own_init_56 : decode prog_14_method_1_code 56 = .ok (.bipush 24, 2) := by decide +kernel
theorem d_Own_init_58 : decode prog_14_method_1_code 58 = .ok (.newarray .int, 2) := by decide +kernel
theorem d_Own_init_60 : decode prog_14_method_1_code 60 = .ok (.putfield 31, 3) := by decide +kernel
theorem d_Own_init_63 : decode prog_14_method_1_code 63 = .ok (.aload_n 0, 1) := by decide +kernel
theorem d_Own_init_64 : decode prog_14_method_1_code 64 = .ok (.bipush 24, 2) := by decide +kernel
theorem d_Own_init_66 : decode prog_14_method_1_code 66 = .ok (.newarray .int, 2) := by decide +kernel
theorem d_Own_init_68 : decode prog_14_method_1_code 68 = .ok (.putfield 34, 3) := by decide +kernel
theorem d_Own_init_71 : decode prog_14_method_1_code 71 = .ok (.aload_n 0, 1) := by decide +kernel
theorem d_Own_init_72 : decode prog_14_method_1_code 72 = .ok (.bipush 24, 2) := by decide +kernel
theorem d_Own_init_74 : decode prog_14_method_1_code 74 = .ok (.newarray .int, 2) := by decide +kernel
theorem d_Own_init_76 : decode prog_14_method_1_code 76 = .ok (.putfield 37, 3) := by decide +kernel
theorem d_Own_init_79 : decode prog_14_method_1_code 79 = .ok (.aload_n 0, 1) := by decide +kernel
theorem d_Own_init_80 : decode prog_14_method_1_code 80 = .ok (.bipush 24, 2) := by decide +kernel
theorem d_Own_init_82 : decode prog_14_method_1_code 82 = .ok (.newarray .int, 2) := by decide +kernel
theorem d_Own_init_84 : decode prog_14_method_1_code 84 = .ok (.putfield 40, 3) := by decide +kernel
theorem d_Own_init_87 : decode prog_14_method_1_code 87 = .ok (.aload_n 0, 1) := by decide +kernel
theorem d_Own_init_88 : decode prog_14_method_1_code 88 = .ok (.bipush 24, 2) := by decide +kernel
theorem d_Own_init_90 : decode prog_14_method_1_code 90 = .ok (.newarray .int, 2) := by decide +kernel
theorem d_Own_init_92 : decode prog_14_method_1_code 92 = .ok (.putfield 43, 3) := by decide +kernel
theorem d_Own_init_95 : decode prog_14_method_1_code 95 = .ok (.aload_n 0, 1) := by decide +kernel
theorem d_Own_init_96 : decode prog_14_method_1_code 96 = .ok (.bipush 24, 2) := by decide +kernel
theorem d_Own_init_98 : decode prog_14_method_1_code 98 = .ok (.newarray .int, 2) := by decide +kernel
theorem d_Own_init_100 : decode prog_14_method_1_code 100 = .ok (.putfield 46, 3) := by decide +kernel
theorem d_Own_init_103 : decode prog_14_method_1_code 103 = .ok (.aload_n 0, 1) := by decide +kernel
theorem d_Own_init_104 : decode prog_14_method_1_code 104 = .ok (.bipush 24, 2) := by decide +kernel
theorem d_Own_init_106 : decode prog_14_method_1_code 106 = .ok (.newarray .int, 2) := by decide +kernel
theorem d_Own_init_108 : decode prog_14_method_1_code 108 = .ok (.putfield 49, 3) := by decide +kernel
theorem d_Own_init_111 : decode prog_14_method_1_code 111 = .ok (.aload_n 0, 1) := by decide +kernel
theorem d_Own_init_112 : decode prog_14_method_1_code 112 = .ok (.bipush 24, 2) := by decide +kernel
theorem d_Own_init_114 : decode prog_14_method_1_code 114 = .ok (.newarray .int, 2) := by decide +kernel
theorem d_Own_init_116 : decode prog_14_method_1_code 116 = .ok (.putfield 52, 3) := by decide +kernel
theorem d_Own_init_119 : decode prog_14_method_1_code 119 = .ok (.aload_n 0, 1) := by decide +kernel
theorem d_Own_init_120 : decode prog_14_method_1_code 120 = .ok (.bipush 24, 2) := by decide +kernel
theorem d_Own_init_122 : decode prog_14_method_1_code 122 = .ok (.newarray .int, 2) := by decide +kernel
theorem d_Own_init_124 : decode prog_14_method_1_code 124 = .ok (.putfield 55, 3) := by decide +kernel
theorem d_Own_init_127 : decode prog_14_method_1_code 127 = .ok (.aload_n 0, 1) := by decide +kernel
theorem d_Own_init_128 : decode prog_14_method_1_code 128 = .ok (.bipush 24, 2) := by decide +kernel
theorem d_Own_init_130 : decode prog_14_method_1_code 130 = .ok (.newarray .int, 2) := by decide +kernel
theorem d_Own_init_132 : decode prog_14_method_1_code 132 = .ok (.putfield 58, 3) := by decide +kernel
theorem d_Own_init_135 : decode prog_14_method_1_code 135 = .ok (.aload_n 0, 1) := by decide +kernel
theorem d_Own_init_136 : decode prog_14_method_1_code 136 = .ok (.bipush 24, 2) := by decide +kernel
theorem d_Own_init_138 : decode prog_14_method_1_code 138 = .ok (.newarray .boolean, 2) := by decide +kernel
theorem d_Own_init_140 : decode prog_14_method_1_code 140 = .ok (.putfield 61, 3) := by decide +kernel
theorem d_Own_init_143 : decode prog_14_method_1_code 143 = .ok (.aload_n 0, 1) := by decide +kernel
theorem d_Own_init_144 : decode prog_14_method_1_code 144 = .ok (.bipush 60, 2) := by decide +kernel
theorem d_Own_init_146 : decode prog_14_method_1_code 146 = .ok (.newarray .int, 2) := by decide +kernel
theorem d_Own_init_148 : decode prog_14_method_1_code 148 = .ok (.putfield 65, 3) := by decide +kernel
theorem d_Own_init_151 : decode prog_14_method_1_code 151 = .ok (.aload_n 0, 1) := by decide +kernel
theorem d_Own_init_152 : decode prog_14_method_1_code 152 = .ok (.bipush 60, 2) := by decide +kernel
theorem d_Own_init_154 : decode prog_14_method_1_code 154 = .ok (.newarray .int, 2) := by decide +kernel
theorem d_Own_init_156 : decode prog_14_method_1_code 156 = .ok (.putfield 68, 3) := by decide +kernel
theorem d_Own_init_159 : decode prog_14_method_1_code 159 = .ok (.return_, 1) := by decide +kernel
theorem d_Own_copy_0 : decode prog_14_method_2_code 0 = .ok (.new 8, 3) := by decide +kernel
theorem d_Own_copy_3 : decode prog_14_method_2_code 3 = .ok (.dup, 1) := by decide +kernel
theorem d_Own_copy_4 : decode prog_14_method_2_code 4 = .ok (.invokespecial 71, 3) := by decide +kernel
theorem d_Own_copy_7 : decode prog_14_method_2_code 7 = .ok (.astore_n 1, 1) := by decide +kernel
theorem d_Own_copy_8 : decode prog_14_method_2_code 8 = .ok (.aload_n 1, 1) := by decide +kernel
theorem d_Own_copy_9 : decode prog_14_method_2_code 9 = .ok (.aload_n 0, 1) := by decide +kernel
theorem d_Own_copy_10 : decode prog_14_method_2_code 10 = .ok (.getfield 72, 3) := by decide +kernel
theorem d_Own_copy_13 : decode prog_14_method_2_code 13 = .ok (.putfield 72, 3) := by decide +kernel
theorem d_Own_copy_16 : decode prog_14_method_2_code 16 = .ok (.aload_n 1, 1) := by decide +kernel
theorem d_Own_copy_17 : decode prog_14_method_2_code 17 = .ok (.aload_n 0, 1) := by decide +kernel
theorem d_Own_copy_18 : decode prog_14_method_2_code 18 = .ok (.getfield 76, 3) := by decide +kernel
theorem d_Own_copy_21 : decode prog_14_method_2_code 21 = .ok (.putfield 76, 3) := by decide +kernel
theorem d_Own_copy_24 : decode prog_14_method_2_code 24 = .ok (.aload_n 1, 1) := by decide +kernel
theorem d_Own_copy_25 : decode prog_14_method_2_code 25 = .ok (.aload_n 0, 1) := by decide +kernel
theorem d_Own_copy_26 : decode prog_14_method_2_code 26 = .ok (.getfield 79, 3) := by decide +kernel
theorem d_Own_copy_29 : decode prog_14_method_2_code 29 = .ok (.putfield 79, 3) := by decide +kernel
theorem d_Own_copy_32 : decode prog_14_method_2_code 32 = .ok (.aload_n 1, 1) := by decide +kernel
theorem d_Own_copy_33 : decode prog_14_method_2_code 33 = .ok (.aload_n 0, 1) := by decide +kernel
theorem d_Own_copy_34 : decode prog_14_method_2_code 34 = .ok (.getfield 82, 3) := by decide +kernel
theorem d_Own_copy_37 : decode prog_14_method_2_code 37 = .ok (.putfield 82, 3) := by decide +kernel
theorem d_Own_copy_40 : decode prog_14_method_2_code 40 = .ok (.aload_n 1, 1) := by decide +kernel
theorem d_Own_copy_41 : decode prog_14_method_2_code 41 = .ok (.aload_n 0, 1) := by decide +kernel
theorem d_Own_copy_42 : decode prog_14_method_2_code 42 = .ok (.getfield 85, 3) := by decide +kernel
theorem d_Own_copy_45 : decode prog_14_method_2_code 45 = .ok (.putfield 85, 3) := by decide +kernel
theorem d_Own_copy_48 : decode prog_14_method_2_code 48 = .ok (.aload_n 1, 1) := by decide +kernel
theorem d_Own_copy_49 : decode prog_14_method_2_code 49 = .ok (.aload_n 0, 1) := by decide +kernel
theorem d_Own_copy_50 : decode prog_14_method_2_code 50 = .ok (.getfield 88, 3) := by decide +kernel
theorem d_Own_copy_53 : decode prog_14_method_2_code 53 = .ok (.putfield 88, 3) := by decide +kernel
theorem d_Own_copy_56 : decode prog_14_method_2_code 56 = .ok (.aload_n 1, 1) := by decide +kernel
theorem d_Own_copy_57 : decode prog_14_method_2_code 57 = .ok (.aload_n 0, 1) := by decide +kernel
theorem d_Own_copy_58 : decode prog_14_method_2_code 58 = .ok (.getfield 91, 3) := by decide +kernel
theorem d_Own_copy_61 : decode prog_14_method_2_code 61 = .ok (.putfield 91, 3) := by decide +kernel
theorem d_Own_copy_64 : decode prog_14_method_2_code 64 = .ok (.aload_n 1, 1) := by decide +kernel
theorem d_Own_copy_65 : decode prog_14_method_2_code 65 = .ok (.aload_n 0, 1) := by decide +kernel
theorem d_Own_copy_66 : decode prog_14_method_2_code 66 = .ok (.getfield 94, 3) := by decide +kernel
theorem d_Own_copy_69 : decode prog_14_method_2_code 69 = .ok (.putfield 94, 3) := by decide +kernel
theorem d_Own_copy_72 : decode prog_14_method_2_code 72 = .ok (.aload_n 1, 1) := by decide +kernel
theorem d_Own_copy_73 : decode prog_14_method_2_code 73 = .ok (.aload_n 0, 1) := by decide +kernel
theorem d_Own_copy_74 : decode prog_14_method_2_code 74 = .ok (.getfield 97, 3) := by decide +kernel
theorem d_Own_copy_77 : decode prog_14_method_2_code 77 = .ok (.putfield 97, 3) := by decide +kernel
theorem d_Own_copy_80 : decode prog_14_method_2_code 80 = .ok (.aload_n 1, 1) := by decide +kernel
theorem d_Own_copy_81 : decode prog_14_method_2_code 81 = .ok (.aload_n 0, 1) := by decide +kernel
theorem d_Own_copy_82 : decode prog_14_method_2_code 82 = .ok (.getfield 100, 3) := by decide +kernel
theorem d_Own_copy_85 : decode prog_14_method_2_code 85 = .ok (.putfield 100, 3) := by decide +kernel
theorem d_Own_copy_88 : decode prog_14_method_2_code 88 = .ok (.aload_n 1, 1) := by decide +kernel
theorem d_Own_copy_89 : decode prog_14_method_2_code 89 = .ok (.aload_n 0, 1) := by decide +kernel
theorem d_Own_copy_90 : decode prog_14_method_2_code 90 = .ok (.getfield 103, 3) := by decide +kernel
theorem d_Own_copy_93 : decode prog_14_method_2_code 93 = .ok (.putfield 103, 3) := by decide +kernel
theorem d_Own_copy_96 : decode prog_14_method_2_code 96 = .ok (.aload_n 1, 1) := by decide +kernel
theorem d_Own_copy_97 : decode prog_14_method_2_code 97 = .ok (.aload_n 0, 1) := by decide +kernel
theorem d_Own_copy_98 : decode prog_14_method_2_code 98 = .ok (.getfield 106, 3) := by decide +kernel
theorem d_Own_copy_101 : decode prog_14_method_2_code 101 = .ok (.putfield 106, 3) := by decide +kernel
theorem d_Own_copy_104 : decode prog_14_method_2_code 104 = .ok (.aload_n 1, 1) := by decide +kernel
theorem d_Own_copy_105 : decode prog_14_method_2_code 105 = .ok (.aload_n 0, 1) := by decide +kernel
theorem d_Own_copy_106 : decode prog_14_method_2_code 106 = .ok (.getfield 109, 3) := by decide +kernel
theorem d_Own_copy_109 : decode prog_14_method_2_code 109 = .ok (.putfield 109, 3) := by decide +kernel
theorem d_Own_copy_112 : decode prog_14_method_2_code 112 = .ok (.aload_n 1, 1) := by decide +kernel
theorem d_Own_copy_113 : decode prog_14_method_2_code 113 = .ok (.aload_n 0, 1) := by decide +kernel
theorem d_Own_copy_114 : decode prog_14_method_2_code 114 = .ok (.getfield 112, 3) := by decide +kernel
theorem d_Own_copy_117 : decode prog_14_method_2_code 117 = .ok (.putfield 112, 3) := by decide +kernel
theorem d_Own_copy_120 : decode prog_14_method_2_code 120 = .ok (.aload_n 1, 1) := by decide +kernel
theorem d_Own_copy_121 : decode prog_14_method_2_code 121 = .ok (.aload_n 0, 1) := by decide +kernel
theorem d_Own_copy_122 : decode prog_14_method_2_code 122 = .ok (.getfield 115, 3) := by decide +kernel
theorem d_Own_copy_125 : decode prog_14_method_2_code 125 = .ok (.putfield 115, 3) := by decide +kernel
theorem d_Own_copy_128 : decode prog_14_method_2_code 128 = .ok (.iconst 0, 1) := by decide +kernel
theorem d_Own_copy_129 : decode prog_14_method_2_code 129 = .ok (.istore_n 2, 1) := by decide +kernel
theorem d_Own_copy_130 : decode prog_14_method_2_code 130 = .ok (.iload_n 2, 1) := by decide +kernel
theorem d_Own_copy_131 : decode prog_14_method_2_code 131 = .ok (.bipush 8, 2) := by decide +kernel
theorem d_Own_copy_133 : decode prog_14_method_2_code 133 = .ok (.if_icmp .ge 33, 3) := by decide +kernel
theorem d_Own_copy_136 : decode prog_14_method_2_code 136 = .ok (.aload_n 1, 1) := by decide +kernel
theorem d_Own_copy_137 : decode prog_14_method_2_code 137 = .ok (.getfield 7, 3) := by decide +kernel
theorem d_Own_copy_140 : decode prog_14_method_2_code 140 = .ok (.iload_n 2, 1) := by decide +kernel
theorem d_Own_copy_141 : decode prog_14_method_2_code 141 = .ok (.aload_n 0, 1) := by decide +kernel
theorem d_Own_copy_142 : decode prog_14_method_2_code 142 = .ok (.getfield 7, 3) := by decide +kernel
theorem d_Own_copy_145 : decode prog_14_method_2_code 145 = .ok (.iload_n 2, 1) := by decide +kernel
theorem d_Own_copy_146 : decode prog_14_method_2_code 146 = .ok (.iaload, 1) := by decide +kernel
theorem d_Own_copy_147 : decode prog_14_method_2_code 147 = .ok (.iastore, 1) := by decide +kernel
theorem d_Own_copy_148 : decode prog_14_method_2_code 148 = .ok (.aload_n 1, 1) := by decide +kernel
theorem d_Own_copy_149 : decode prog_14_method_2_code 149 = .ok (.getfield 13, 3) := by decide +kernel
theorem d_Own_copy_152 : decode prog_14_method_2_code 152 = .ok (.iload_n 2, 1) := by decide +kernel
theorem d_Own_copy_153 : decode prog_14_method_2_code 153 = .ok (.aload_n 0, 1) := by decide +kernel
theorem d_Own_copy_154 : decode prog_14_method_2_code 154 = .ok (.getfield 13, 3) := by decide +kernel
theorem d_Own_copy_157 : decode prog_14_method_2_code 157 = .ok (.iload_n 2, 1) := by decide +kernel
theorem d_Own_copy_158 : decode prog_14_method_2_code 158 = .ok (.iaload, 1) := by decide +kernel
theorem d_Own_copy_159 : decode prog_14_method_2_code 159 = .ok (.iastore, 1) := by decide +kernel
theorem d_Own_copy_160 : decode prog_14_method_2_code 160 = .ok (.iinc 2 1, 3) := by decide +kernel
theorem d_Own_copy_163 : decode prog_14_method_2_code 163 = .ok (.goto (-33), 3) := by decide +kernel
theorem d_Own_copy_166 : decode prog_14_method_2_code 166 = .ok (.iconst 0, 1) := by decide +kernel
theorem d_Own_copy_167 : decode prog_14_method_2_code 167 = .ok (.istore_n 2, 1) := by decide +kernel
theorem d_Own_copy_168 : decode prog_14_method_2_code 168 = .ok (.iload_n 2, 1) := by decide +kernel
theorem d_Own_copy_169 : decode prog_14_method_2_code 169 = .ok (.iconst 5, 1) := by decide +kernel
theorem d_Own_copy_170 : decode prog_14_method_2_code 170 = .ok (.if_icmp .ge 69, 3) := by decide +kernel
theorem d_Own_copy_173 : decode prog_14_method_2_code 173 = .ok (.aload_n 1, 1) := by decide +kernel
theorem d_Own_copy_174 : decode prog_14_method_2_code 174 = .ok (.getfield 16, 3) := by decide +kernel
theorem d_Own_copy_177 : decode prog_14_method_2_code 177 = .ok (.iload_n 2, 1) := by decide +kernel
theorem d_Own_copy_178 : decode prog_14_method_2_code 178 = .ok (.aload_n 0, 1) := by decide +kernel
theorem d_Own_copy_179 : decode prog_14_method_2_code 179 = .ok (.getfield 16, 3) := by decide +kernel
theorem d_Own_copy_182 : decode prog_14_method_2_code 182 = .ok (.iload_n 2, 1) := by decide +kernel
theorem d_Own_copy_183 : decode prog_14_method_2_code 183 = .ok (.iaload, 1) := by decide +kernel
theorem d_Own_copy_184 : decode prog_14_method_2_code 184 = .ok (.iastore, 1) := by decide +kernel
theorem d_Own_copy_185 : decode prog_14_method_2_code 185 = .ok (.aload_n 1, 1) := by decide +kernel
theorem d_Own_copy_186 : decode prog_14_method_2_code 186 = .ok (.getfield 19, 3) := by decide +kernel
theorem d_Own_copy_189 : decode prog_14_method_2_code 189 = .ok (.iload_n 2, 1) := by decide +kernel
theorem d_Own_copy_190 : decode prog_14_method_2_code 190 = .ok (.aload_n 0, 1) := by decide +kernel
theorem d_Own_copy_191 : decode prog_14_method_2_code 191 = .ok (.getfield 19, 3) := by decide +kernel
theorem d_Own_copy_194 : decode prog_14_method_2_code 194 = .ok (.iload_n 2, 1) := by decide +kernel
theorem d_Own_copy_195 : decode prog_14_method_2_code 195 = .ok (.iaload, 1) := by decide +kernel
theorem d_Own_copy_196 : decode prog_14_method_2_code 196 = .ok (.iastore, 1) := by decide +kernel
theorem d_Own_copy_197 : decode prog_14_method_2_code 197 = .ok (.aload_n 1, 1) := by decide +kernel
theorem d_Own_copy_198 : decode prog_14_method_2_code 198 = .ok (.getfield 22, 3) := by decide +kernel
theorem d_Own_copy_201 : decode prog_14_method_2_code 201 = .ok (.iload_n 2, 1) := by decide +kernel
theorem d_Own_copy_202 : decode prog_14_method_2_code 202 = .ok (.aload_n 0, 1) := by decide +kernel
theorem d_Own_copy_203 : decode prog_14_method_2_code 203 = .ok (.getfield 22, 3) := by decide +kernel
theorem d_Own_copy_206 : decode prog_14_method_2_code 206 = .ok (.iload_n 2, 1) := by decide +kernel
theorem d_Own_copy_207 : decode prog_14_method_2_code 207 = .ok (.iaload, 1) := by decide +kernel
theorem d_Own_copy_208 : decode prog_14_method_2_code 208 = .ok (.iastore, 1) := by decide +kernel
theorem d_Own_copy_209 : decode prog_14_method_2_code 209 = .ok (.aload_n 1, 1) := by decide +kernel
theorem d_Own_copy_210 : decode prog_14_method_2_code 210 = .ok (.getfield 25, 3) := by decide +kernel
theorem d_Own_copy_213 : decode prog_14_method_2_code 213 = .ok (.iload_n 2, 1) := by decide +kernel
theorem d_Own_copy_214 : decode prog_14_method_2_code 214 = .ok (.aload_n 0, 1) := by decide +kernel
theorem d_Own_copy_215 : decode prog_14_method_2_code 215 = .ok (.getfield 25, 3) := by decide +kernel
theorem d_Own_copy_218 : decode prog_14_method_2_code 218 = .ok (.iload_n 2, 1) := by decide +kernel
theorem d_Own_copy_219 : decode prog_14_method_2_code 219 = .ok (.iaload, 1) := by decide +kernel
theorem d_Own_copy_220 : decode prog_14_method_2_code 220 = .ok (.iastore, 1) := by decide +kernel
theorem d_Own_copy_221 : decode prog_14_method_2_code 221 = .ok (.aload_n 1, 1) := by decide +kernel
theorem d_Own_copy_222 : decode prog_14_method_2_code 222 = .ok (.getfield 28, 3) := by decide +kernel
