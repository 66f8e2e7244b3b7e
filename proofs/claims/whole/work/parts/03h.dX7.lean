theorem dX7_init_0 : decode cX7_init 0 = .ok (.aload_n 0, 1) := by decide +kernel
theorem dX7_init_1 : decode cX7_init 1 = .ok (.invokespecial 3, 3) := by decide +kernel
theorem dX7_init_4 : decode cX7_init 4 = .ok (.aload_n 0, 1) := by decide +kernel
theorem dX7_init_5 : decode cX7_init 5 = .ok (.bipush 12, 2) := by decide +kernel
theorem dX7_init_7 : decode cX7_init 7 = .ok (.anewarray 9, 3) := by decide +kernel
theorem dX7_init_10 : decode cX7_init 10 = .ok (.putfield 11, 3) := by decide +kernel
theorem dX7_init_13 : decode cX7_init 13 = .ok (.aload_n 0, 1) := by decide +kernel
theorem dX7_init_14 : decode cX7_init 14 = .ok (.iconst 4, 1) := by decide +kernel
theorem dX7_init_15 : decode cX7_init 15 = .ok (.iconst 3, 1) := by decide +kernel
theorem dX7_init_16 : decode cX7_init 16 = .ok (.multianewarray 17 2, 4) := by decide +kernel
theorem dX7_init_20 : decode cX7_init 20 = .ok (.putfield 19, 3) := by decide +kernel
theorem dX7_init_23 : decode cX7_init 23 = .ok (.aload_n 0, 1) := by decide +kernel
theorem dX7_init_24 : decode cX7_init 24 = .ok (.iconst 4, 1) := by decide +kernel
theorem dX7_init_25 : decode cX7_init 25 = .ok (.newarray .int, 2) := by decide +kernel
theorem dX7_init_27 : decode cX7_init 27 = .ok (.putfield 22, 3) := by decide +kernel
theorem dX7_init_30 : decode cX7_init 30 = .ok (.aload_n 0, 1) := by decide +kernel
theorem dX7_init_31 : decode cX7_init 31 = .ok (.bipush 6, 2) := by decide +kernel
theorem dX7_init_33 : decode cX7_init 33 = .ok (.anewarray 9, 3) := by decide +kernel
theorem dX7_init_36 : decode cX7_init 36 = .ok (.putfield 26, 3) := by decide +kernel
theorem dX7_init_39 : decode cX7_init 39 = .ok (.aload_n 0, 1) := by decide +kernel
theorem dX7_init_40 : decode cX7_init 40 = .ok (.iconst 4, 1) := by decide +kernel
theorem dX7_init_41 : decode cX7_init 41 = .ok (.newarray .int, 2) := by decide +kernel
theorem dX7_init_43 : decode cX7_init 43 = .ok (.putfield 29, 3) := by decide +kernel
theorem dX7_init_46 : decode cX7_init 46 = .ok (.aload_n 0, 1) := by decide +kernel
theorem dX7_init_47 : decode cX7_init 47 = .ok (.iconst 1, 1) := by decide +kernel
theorem dX7_init_48 : decode cX7_init 48 = .ok (.putfield 32, 3) := by decide +kernel
theorem dX7_init_51 : decode cX7_init 51 = .ok (.aload_n 0, 1) := by decide +kernel
theorem dX7_init_52 : decode cX7_init 52 = .ok (.aload_n 1, 1) := by decide +kernel
theorem dX7_init_53 : decode cX7_init 53 = .ok (.putfield 36, 3) := by decide +kernel
theorem dX7_init_56 : decode cX7_init 56 = .ok (.aload_n 0, 1) := by decide +kernel
theorem dX7_init_57 : decode cX7_init 57 = .ok (.iconst 0, 1) := by decide +kernel
theorem dX7_init_58 : decode cX7_init 58 = .ok (.invokestatic 40, 3) := by decide +kernel
theorem dX7_init_61 : decode cX7_init 61 = .ok (.putfield 44, 3) := by decide +kernel
theorem dX7_init_64 : decode cX7_init 64 = .ok (.iconst 0, 1) := by decide +kernel
theorem dX7_init_65 : decode cX7_init 65 = .ok (.istore_n 2, 1) := by decide +kernel
theorem dX7_init_66 : decode cX7_init 66 = .ok (.iload_n 2, 1) := by decide +kernel
theorem dX7_init_67 : decode cX7_init 67 = .ok (.aload_n 0, 1) := by decide +kernel
theorem dX7_init_68 : decode cX7_init 68 = .ok (.getfield 11, 3) := by decide +kernel
theorem dX7_init_71 : decode cX7_init 71 = .ok (.arraylength, 1) := by decide +kernel
theorem dX7_init_72 : decode cX7_init 72 = .ok (.if_icmp .ge 19, 3) := by decide +kernel
theorem dX7_init_75 : decode cX7_init 75 = .ok (.aload_n 0, 1) := by decide +kernel
theorem dX7_init_76 : decode cX7_init 76 = .ok (.getfield 11, 3) := by decide +kernel
theorem dX7_init_79 : decode cX7_init 79 = .ok (.iload_n 2, 1) := by decide +kernel
theorem dX7_init_80 : decode cX7_init 80 = .ok (.aload_n 0, 1) := by decide +kernel
theorem dX7_init_81 : decode cX7_init 81 = .ok (.getfield 44, 3) := by decide +kernel
theorem dX7_init_84 : decode cX7_init 84 = .ok (.aastore, 1) := by decide +kernel
theorem dX7_init_85 : decode cX7_init 85 = .ok (.iinc 2 1, 3) := by decide +kernel
theorem dX7_init_88 : decode cX7_init 88 = .ok (.goto (-22), 3) := by decide +kernel
theorem dX7_init_91 : decode cX7_init 91 = .ok (.iconst 0, 1) := by decide +kernel
theorem dX7_init_92 : decode cX7_init 92 = .ok (.istore_n 2, 1) := by decide +kernel
theorem dX7_init_93 : decode cX7_init 93 = .ok (.iload_n 2, 1) := by decide +kernel
theorem dX7_init_94 : decode cX7_init 94 = .ok (.aload_n 0, 1) := by decide +kernel
theorem dX7_init_95 : decode cX7_init 95 = .ok (.getfield 26, 3) := by decide +kernel
theorem dX7_init_98 : decode cX7_init 98 = .ok (.arraylength, 1) := by decide +kernel
theorem dX7_init_99 : decode cX7_init 99 = .ok (.if_icmp .ge 19, 3) := by decide +kernel
theorem dX7_init_102 : decode cX7_init 102 = .ok (.aload_n 0, 1) := by decide +kernel
theorem dX7_init_103 : decode cX7_init 103 = .ok (.getfield 26, 3) := by decide +kernel
theorem dX7_init_106 : decode cX7_init 106 = .ok (.iload_n 2, 1) := by decide +kernel
theorem dX7_init_107 : decode cX7_init 107 = .ok (.aload_n 0, 1) := by decide +kernel
theorem dX7_init_108 : decode cX7_init 108 = .ok (.getfield 44, 3) := by decide +kernel
theorem dX7_init_111 : decode cX7_init 111 = .ok (.aastore, 1) := by decide +kernel
theorem dX7_init_112 : decode cX7_init 112 = .ok (.iinc 2 1, 3) := by decide +kernel
theorem dX7_init_115 : decode cX7_init 115 = .ok (.goto (-22), 3) := by decide +kernel
theorem dX7_init_118 : decode cX7_init 118 = .ok (.return_, 1) := by decide +kernel
theorem dX7_open_0 : decode cX7_open 0 = .ok (.aload_n 0, 1) := by decide +kernel
theorem dX7_open_1 : decode cX7_open 1 = .ok (.aload_n 3, 1) := by decide +kernel
theorem dX7_open_2 : decode cX7_open 2 = .ok (.putfield 44, 3) := by decide +kernel
theorem dX7_open_5 : decode cX7_open 5 = .ok (.aload_n 0, 1) := by decide +kernel
theorem dX7_open_6 : decode cX7_open 6 = .ok (.iload 4, 2) := by decide +kernel
theorem dX7_open_8 : decode cX7_open 8 = .ok (.putfield 32, 3) := by decide +kernel
theorem dX7_open_11 : decode cX7_open 11 = .ok (.iconst 0, 1) := by decide +kernel
theorem dX7_open_12 : decode cX7_open 12 = .ok (.istore 5, 2) := by decide +kernel
theorem dX7_open_14 : decode cX7_open 14 = .ok (.iload 5, 2) := by decide +kernel
theorem dX7_open_16 : decode cX7_open 16 = .ok (.aload_n 0, 1) := by decide +kernel
theorem dX7_open_17 : decode cX7_open 17 = .ok (.getfield 11, 3) := by decide +kernel
theorem dX7_open_20 : decode cX7_open 20 = .ok (.arraylength, 1) := by decide +kernel
theorem dX7_open_21 : decode cX7_open 21 = .ok (.if_icmp .ge 27, 3) := by decide +kernel
theorem dX7_open_24 : decode cX7_open 24 = .ok (.iload 5, 2) := by decide +kernel
theorem dX7_open_26 : decode cX7_open 26 = .ok (.aload_n 1, 1) := by decide +kernel
theorem dX7_open_27 : decode cX7_open 27 = .ok (.arraylength, 1) := by decide +kernel
theorem dX7_open_28 : decode cX7_open 28 = .ok (.if_icmp .ge 20, 3) := by decide +kernel
theorem dX7_open_31 : decode cX7_open 31 = .ok (.aload_n 0, 1) := by decide +kernel
theorem dX7_open_32 : decode cX7_open 32 = .ok (.getfield 11, 3) := by decide +kernel
theorem dX7_open_35 : decode cX7_open 35 = .ok (.iload 5, 2) := by decide +kernel
theorem dX7_open_37 : decode cX7_open 37 = .ok (.aload_n 1, 1) := by decide +kernel
theorem dX7_open_38 : decode cX7_open 38 = .ok (.iload 5, 2) := by decide +kernel
theorem dX7_open_40 : decode cX7_open 40 = .ok (.aaload, 1) := by decide +kernel
theorem dX7_open_41 : decode cX7_open 41 = .ok (.aastore, 1) := by decide +kernel
theorem dX7_open_42 : decode cX7_open 42 = .ok (.iinc 5 1, 3) := by decide +kernel
theorem dX7_open_45 : decode cX7_open 45 = .ok (.goto (-31), 3) := by decide +kernel
theorem dX7_open_48 : decode cX7_open 48 = .ok (.iconst 0, 1) := by decide +kernel
theorem dX7_open_49 : decode cX7_open 49 = .ok (.istore 5, 2) := by decide +kernel
theorem dX7_open_51 : decode cX7_open 51 = .ok (.iload 5, 2) := by decide +kernel
theorem dX7_open_53 : decode cX7_open 53 = .ok (.iconst 4, 1) := by decide +kernel
theorem dX7_open_54 : decode cX7_open 54 = .ok (.if_icmp .ge 78, 3) := by decide +kernel
theorem dX7_open_57 : decode cX7_open 57 = .ok (.iload 5, 2) := by decide +kernel
theorem dX7_open_59 : decode cX7_open 59 = .ok (.aload_n 2, 1) := by decide +kernel
theorem dX7_open_60 : decode cX7_open 60 = .ok (.arraylength, 1) := by decide +kernel
theorem dX7_open_61 : decode cX7_open 61 = .ok (.if_icmp .ge 71, 3) := by decide +kernel
theorem dX7_open_64 : decode cX7_open 64 = .ok (.iconst 0, 1) := by decide +kernel
theorem dX7_open_65 : decode cX7_open 65 = .ok (.istore 6, 2) := by decide +kernel
theorem dX7_open_67 : decode cX7_open 67 = .ok (.iconst 0, 1) := by decide +kernel
theorem dX7_open_68 : decode cX7_open 68 = .ok (.istore 7, 2) := by decide +kernel
theorem dX7_open_70 : decode cX7_open 70 = .ok (.iload 7, 2) := by decide +kernel
theorem dX7_open_72 : decode cX7_open 72 = .ok (.bipush 12, 2) := by decide +kernel
theorem dX7_open_74 : decode cX7_open 74 = .ok (.if_icmp .ge 43, 3) := by decide +kernel
theorem dX7_open_77 : decode cX7_open 77 = .ok (.iload 6, 2) := by decide +kernel
theorem dX7_open_79 : decode cX7_open 79 = .ok (.iconst 3, 1) := by decide +kernel
theorem dX7_open_80 : decode cX7_open 80 = .ok (.if_icmp .ge 37, 3) := by decide +kernel
theorem dX7_open_83 : decode cX7_open 83 = .ok (.aload_n 2, 1) := by decide +kernel
theorem dX7_open_84 : decode cX7_open 84 = .ok (.iload 5, 2) := by decide +kernel
theorem dX7_open_86 : decode cX7_open 86 = .ok (.iaload, 1) := by decide +kernel
theorem dX7_open_87 : decode cX7_open 87 = .ok (.iload 7, 2) := by decide +kernel
theorem dX7_open_89 : decode cX7_open 89 = .ok (.ishr, 1) := by decide +kernel
theorem dX7_open_90 : decode cX7_open 90 = .ok (.iconst 1, 1) := by decide +kernel
theorem dX7_open_91 : decode cX7_open 91 = .ok (.iand, 1) := by decide +kernel
theorem dX7_open_92 : decode cX7_open 92 = .ok (.iconst 1, 1) := by decide +kernel
theorem dX7_open_93 : decode cX7_open 93 = .ok (.if_icmp .ne 18, 3) := by decide +kernel
theorem dX7_open_96 : decode cX7_open 96 = .ok (.aload_n 0, 1) := by decide +kernel
theorem dX7_open_97 : decode cX7_open 97 = .ok (.getfield 19, 3) := by decide +kernel
theorem dX7_open_100 : decode cX7_open 100 = .ok (.iload 5, 2) := by decide +kernel
theorem dX7_open_102 : decode cX7_open 102 = .ok (.aaload, 1) := by decide +kernel
theorem dX7_open_103 : decode cX7_open 103 = .ok (.iload 6, 2) := by decide +kernel
theorem dX7_open_105 : decode cX7_open 105 = .ok (.iload 7, 2) := by decide +kernel
theorem dX7_open_107 : decode cX7_open 107 = .ok (.iastore, 1) := by decide +kernel
theorem dX7_open_108 : decode cX7_open 108 = .ok (.iinc 6 1, 3) := by decide +kernel
theorem dX7_open_111 : decode cX7_open 111 = .ok (.iinc 7 1, 3) := by decide +kernel
theorem dX7_open_114 : decode cX7_open 114 = .ok (.goto (-44), 3) := by decide +kernel
theorem dX7_open_117 : decode cX7_open 117 = .ok (.aload_n 0, 1) := by decide +kernel
theorem dX7_open_118 : decode cX7_open 118 = .ok (.getfield 22, 3) := by decide +kernel
theorem dX7_open_121 : decode cX7_open 121 = .ok (.iload 5, 2) := by decide +kernel
theorem dX7_open_123 : decode cX7_open 123 = .ok (.iload 6, 2) := by decide +kernel
theorem dX7_open_125 : decode cX7_open 125 = .ok (.iastore, 1) := by decide +kernel
theorem dX7_open_126 : decode cX7_open 126 = .ok (.iinc 5 1, 3) := by decide +kernel
theorem dX7_open_129 : decode cX7_open 129 = .ok (.goto (-78), 3) := by decide +kernel
theorem dX7_open_132 : decode cX7_open 132 = .ok (.return_, 1) := by decide +kernel
theorem dX7_countOfReadings_0 : decode cX7_countOfReadings 0 = .ok (.aload_n 0, 1) := by decide +kernel
theorem dX7_countOfReadings_1 : decode cX7_countOfReadings 1 = .ok (.aload_n 1, 1) := by decide +kernel
theorem dX7_countOfReadings_2 : decode cX7_countOfReadings 2 = .ok (.iload_n 2, 1) := by decide +kernel
theorem dX7_countOfReadings_3 : decode cX7_countOfReadings 3 = .ok (.invokevirtual 48, 3) := by decide +kernel
theorem dX7_countOfReadings_6 : decode cX7_countOfReadings 6 = .ok (.istore_n 3, 1) := by decide +kernel
theorem dX7_countOfReadings_7 : decode cX7_countOfReadings 7 = .ok (.iconst 0, 1) := by decide +kernel
theorem dX7_countOfReadings_8 : decode cX7_countOfReadings 8 = .ok (.istore 4, 2) := by decide +kernel
theorem dX7_countOfReadings_10 : decode cX7_countOfReadings 10 = .ok (.iconst 0, 1) := by decide +kernel
theorem dX7_countOfReadings_11 : decode cX7_countOfReadings 11 = .ok (.istore 5, 2) := by decide +kernel
theorem dX7_countOfReadings_13 : decode cX7_countOfReadings 13 = .ok (.iload 5, 2) := by decide +kernel
theorem dX7_countOfReadings_15 : decode cX7_countOfReadings 15 = .ok (.iload_n 3, 1) := by decide +kernel
theorem dX7_countOfReadings_16 : decode cX7_countOfReadings 16 = .ok (.if_icmp .ge 30, 3) := by decide +kernel
theorem dX7_countOfReadings_19 : decode cX7_countOfReadings 19 = .ok (.iload 4, 2) := by decide +kernel
theorem dX7_countOfReadings_21 : decode cX7_countOfReadings 21 = .ok (.aload_n 0, 1) := by decide +kernel
theorem dX7_countOfReadings_22 : decode cX7_countOfReadings 22 = .ok (.aload_n 1, 1) := by decide +kernel
theorem dX7_countOfReadings_23 : decode cX7_countOfReadings 23 = .ok (.iload_n 2, 1) := by decide +kernel
theorem dX7_countOfReadings_24 : decode cX7_countOfReadings 24 = .ok (.iload 5, 2) := by decide +kernel
theorem dX7_countOfReadings_26 : decode cX7_countOfReadings 26 = .ok (.invokevirtual 52, 3) := by decide +kernel
theorem dX7_countOfReadings_29 : decode cX7_countOfReadings 29 = .ok (.ifCond .le 7, 3) := by decide +kernel
theorem dX7_countOfReadings_32 : decode cX7_countOfReadings 32 = .ok (.iconst 1, 1) := by decide +kernel
theorem dX7_countOfReadings_33 : decode cX7_countOfReadings 33 = .ok (.goto 4, 3) := by decide +kernel
theorem dX7_countOfReadings_36 : decode cX7_countOfReadings 36 = .ok (.iconst 0, 1) := by decide +kernel
theorem dX7_countOfReadings_37 : decode cX7_countOfReadings 37 = .ok (.iadd, 1) := by decide +kernel
theorem dX7_countOfReadings_38 : decode cX7_countOfReadings 38 = .ok (.istore 4, 2) := by decide +kernel
theorem dX7_countOfReadings_40 : decode cX7_countOfReadings 40 = .ok (.iinc 5 1, 3) := by decide +kernel
theorem dX7_countOfReadings_43 : decode cX7_countOfReadings 43 = .ok (.goto (-30), 3) := by decide +kernel
theorem dX7_countOfReadings_46 : decode cX7_countOfReadings 46 = .ok (.iload 4, 2) := by decide +kernel
theorem dX7_countOfReadings_48 : decode cX7_countOfReadings 48 = .ok (.ireturn, 1) := by decide +kernel
theorem dX7_sumOfMeanings_0 : decode cX7_sumOfMeanings 0 = .ok (.aload_n 0, 1) := by decide +kernel
theorem dX7_sumOfMeanings_1 : decode cX7_sumOfMeanings 1 = .ok (.aload_n 1, 1) := by decide +kernel
theorem dX7_sumOfMeanings_2 : decode cX7_sumOfMeanings 2 = .ok (.iload_n 2, 1) := by decide +kernel
theorem dX7_sumOfMeanings_3 : decode cX7_sumOfMeanings 3 = .ok (.invokevirtual 48, 3) := by decide +kernel
theorem dX7_sumOfMeanings_6 : decode cX7_sumOfMeanings 6 = .ok (.istore_n 3, 1) := by decide +kernel
theorem dX7_sumOfMeanings_7 : decode cX7_sumOfMeanings 7 = .ok (.lconst 0, 1) := by decide +kernel
theorem dX7_sumOfMeanings_8 : decode cX7_sumOfMeanings 8 = .ok (.lstore 4, 2) := by decide +kernel
theorem dX7_sumOfMeanings_10 : decode cX7_sumOfMeanings 10 = .ok (.iconst 0, 1) := by decide +kernel
theorem dX7_sumOfMeanings_11 : decode cX7_sumOfMeanings 11 = .ok (.istore 6, 2) := by decide +kernel
theorem dX7_sumOfMeanings_13 : decode cX7_sumOfMeanings 13 = .ok (.iload 6, 2) := by decide +kernel
theorem dX7_sumOfMeanings_15 : decode cX7_sumOfMeanings 15 = .ok (.iload_n 3, 1) := by decide +kernel
theorem dX7_sumOfMeanings_16 : decode cX7_sumOfMeanings 16 = .ok (.if_icmp .ge 23, 3) := by decide +kernel
theorem dX7_sumOfMeanings_19 : decode cX7_sumOfMeanings 19 = .ok (.lload 4, 2) := by decide +kernel
theorem dX7_sumOfMeanings_21 : decode cX7_sumOfMeanings 21 = .ok (.aload_n 0, 1) := by decide +kernel
theorem dX7_sumOfMeanings_22 : decode cX7_sumOfMeanings 22 = .ok (.aload_n 1, 1) := by decide +kernel
theorem dX7_sumOfMeanings_23 : decode cX7_sumOfMeanings 23 = .ok (.iload_n 2, 1) := by decide +kernel
theorem dX7_sumOfMeanings_24 : decode cX7_sumOfMeanings 24 = .ok (.iload 6, 2) := by decide +kernel
theorem dX7_sumOfMeanings_26 : decode cX7_sumOfMeanings 26 = .ok (.invokevirtual 52, 3) := by decide +kernel
theorem dX7_sumOfMeanings_29 : decode cX7_sumOfMeanings 29 = .ok (.i2l, 1) := by decide +kernel
theorem dX7_sumOfMeanings_30 : decode cX7_sumOfMeanings 30 = .ok (.ladd, 1) := by decide +kernel
theorem dX7_sumOfMeanings_31 : decode cX7_sumOfMeanings 31 = .ok (.lstore 4, 2) := by decide +kernel
theorem dX7_sumOfMeanings_33 : decode cX7_sumOfMeanings 33 = .ok (.iinc 6 1, 3) := by decide +kernel
theorem dX7_sumOfMeanings_36 : decode cX7_sumOfMeanings 36 = .ok (.goto (-23), 3) := by decide +kernel
theorem dX7_sumOfMeanings_39 : decode cX7_sumOfMeanings 39 = .ok (.lload 4, 2) := by decide +kernel
theorem dX7_sumOfMeanings_41 : decode cX7_sumOfMeanings 41 = .ok (.ldc2_w 56, 3) := by decide +kernel
theorem dX7_sumOfMeanings_44 : decode cX7_sumOfMeanings 44 = .ok (.lrem, 1) := by decide +kernel
theorem dX7_sumOfMeanings_45 : decode cX7_sumOfMeanings 45 = .ok (.l2i, 1) := by decide +kernel
theorem dX7_sumOfMeanings_46 : decode cX7_sumOfMeanings 46 = .ok (.ireturn, 1) := by decide +kernel
theorem dX7_firstReading_0 : decode cX7_firstReading 0 = .ok (.aload_n 0, 1) := by decide +kernel
theorem dX7_firstReading_1 : decode cX7_firstReading 1 = .ok (.aload_n 1, 1) := by decide +kernel
theorem dX7_firstReading_2 : decode cX7_firstReading 2 = .ok (.iload_n 2, 1) := by decide +kernel
theorem dX7_firstReading_3 : decode cX7_firstReading 3 = .ok (.invokevirtual 48, 3) := by decide +kernel
theorem dX7_firstReading_6 : decode cX7_firstReading 6 = .ok (.istore_n 3, 1) := by decide +kernel
theorem dX7_firstReading_7 : decode cX7_firstReading 7 = .ok (.iconst 0, 1) := by decide +kernel
theorem dX7_firstReading_8 : decode cX7_firstReading 8 = .ok (.istore 4, 2) := by decide +kernel
theorem dX7_firstReading_10 : decode cX7_firstReading 10 = .ok (.iload 4, 2) := by decide +kernel
theorem dX7_firstReading_12 : decode cX7_firstReading 12 = .ok (.iload_n 3, 1) := by decide +kernel
theorem dX7_firstReading_13 : decode cX7_firstReading 13 = .ok (.if_icmp .ge 23, 3) := by decide +kernel
theorem dX7_firstReading_16 : decode cX7_firstReading 16 = .ok (.aload_n 0, 1) := by decide +kernel
theorem dX7_firstReading_17 : decode cX7_firstReading 17 = .ok (.aload_n 1, 1) := by decide +kernel
theorem dX7_firstReading_18 : decode cX7_firstReading 18 = .ok (.iload_n 2, 1) := by decide +kernel
theorem dX7_firstReading_19 : decode cX7_firstReading 19 = .ok (.iload 4, 2) := by decide +kernel
theorem dX7_firstReading_21 : decode cX7_firstReading 21 = .ok (.invokevirtual 52, 3) := by decide +kernel
theorem dX7_firstReading_24 : decode cX7_firstReading 24 = .ok (.ifCond .le 6, 3) := by decide +kernel
theorem dX7_firstReading_27 : decode cX7_firstReading 27 = .ok (.iload 4, 2) := by decide +kernel
theorem dX7_firstReading_29 : decode cX7_firstReading 29 = .ok (.ireturn, 1) := by decide +kernel
theorem dX7_firstReading_30 : decode cX7_firstReading 30 = .ok (.iinc 4 1, 3) := by decide +kernel
theorem dX7_firstReading_33 : decode cX7_firstReading 33 = .ok (.goto (-23), 3) := by decide +kernel
theorem dX7_firstReading_36 : decode cX7_firstReading 36 = .ok (.iconst (-1), 1) := by decide +kernel
theorem dX7_firstReading_37 : decode cX7_firstReading 37 = .ok (.ireturn, 1) := by decide +kernel
theorem dX7_kindNumberIn_0 : decode cX7_kindNumberIn 0 = .ok (.iload_n 3, 1) := by decide +kernel
theorem dX7_kindNumberIn_1 : decode cX7_kindNumberIn 1 = .ok (.istore 5, 2) := by decide +kernel
theorem dX7_kindNumberIn_3 : decode cX7_kindNumberIn 3 = .ok (.iload_n 2, 1) := by decide +kernel
theorem dX7_kindNumberIn_4 : decode cX7_kindNumberIn 4 = .ok (.iconst 1, 1) := by decide +kernel
theorem dX7_kindNumberIn_5 : decode cX7_kindNumberIn 5 = .ok (.isub, 1) := by decide +kernel
theorem dX7_kindNumberIn_6 : decode cX7_kindNumberIn 6 = .ok (.istore 6, 2) := by decide +kernel
theorem dX7_kindNumberIn_8 : decode cX7_kindNumberIn 8 = .ok (.iload 6, 2) := by decide +kernel
theorem dX7_kindNumberIn_10 : decode cX7_kindNumberIn 10 = .ok (.iload 4, 2) := by decide +kernel
theorem dX7_kindNumberIn_12 : decode cX7_kindNumberIn 12 = .ok (.if_icmp .le 50, 3) := by decide +kernel
theorem dX7_kindNumberIn_15 : decode cX7_kindNumberIn 15 = .ok (.iload 6, 2) := by decide +kernel
theorem dX7_kindNumberIn_17 : decode cX7_kindNumberIn 17 = .ok (.ifCond .lt 45, 3) := by decide +kernel
theorem dX7_kindNumberIn_20 : decode cX7_kindNumberIn 20 = .ok (.iload 6, 2) := by decide +kernel
theorem dX7_kindNumberIn_22 : decode cX7_kindNumberIn 22 = .ok (.aload_n 1, 1) := by decide +kernel
theorem dX7_kindNumberIn_23 : decode cX7_kindNumberIn 23 = .ok (.arraylength, 1) := by decide +kernel
theorem dX7_kindNumberIn_24 : decode cX7_kindNumberIn 24 = .ok (.if_icmp .ge 38, 3) := by decide +kernel
theorem dX7_kindNumberIn_27 : decode cX7_kindNumberIn 27 = .ok (.aload_n 0, 1) := by decide +kernel
theorem dX7_kindNumberIn_28 : decode cX7_kindNumberIn 28 = .ok (.getfield 22, 3) := by decide +kernel
theorem dX7_kindNumberIn_31 : decode cX7_kindNumberIn 31 = .ok (.aload_n 1, 1) := by decide +kernel
theorem dX7_kindNumberIn_32 : decode cX7_kindNumberIn 32 = .ok (.iload 6, 2) := by decide +kernel
theorem dX7_kindNumberIn_34 : decode cX7_kindNumberIn 34 = .ok (.iaload, 1) := by decide +kernel
theorem dX7_kindNumberIn_35 : decode cX7_kindNumberIn 35 = .ok (.iconst 3, 1) := by decide +kernel
theorem dX7_kindNumberIn_36 : decode cX7_kindNumberIn 36 = .ok (.iand, 1) := by decide +kernel
theorem dX7_kindNumberIn_37 : decode cX7_kindNumberIn 37 = .ok (.iaload, 1) := by decide +kernel
theorem dX7_kindNumberIn_38 : decode cX7_kindNumberIn 38 = .ok (.istore 7, 2) := by decide +kernel
theorem dX7_kindNumberIn_40 : decode cX7_kindNumberIn 40 = .ok (.iload 7, 2) := by decide +kernel
theorem dX7_kindNumberIn_42 : decode cX7_kindNumberIn 42 = .ok (.ifCond .le 11, 3) := by decide +kernel
theorem dX7_kindNumberIn_45 : decode cX7_kindNumberIn 45 = .ok (.iload 5, 2) := by decide +kernel
theorem dX7_kindNumberIn_47 : decode cX7_kindNumberIn 47 = .ok (.iload 7, 2) := by decide +kernel
theorem dX7_kindNumberIn_49 : decode cX7_kindNumberIn 49 = .ok (.idiv, 1) := by decide +kernel
theorem dX7_kindNumberIn_50 : decode cX7_kindNumberIn 50 = .ok (.goto 4, 3) := by decide +kernel
theorem dX7_kindNumberIn_53 : decode cX7_kindNumberIn 53 = .ok (.iconst 0, 1) := by decide +kernel
theorem dX7_kindNumberIn_54 : decode cX7_kindNumberIn 54 = .ok (.istore 5, 2) := by decide +kernel
theorem dX7_kindNumberIn_56 : decode cX7_kindNumberIn 56 = .ok (.iinc 6 (-1), 3) := by decide +kernel
theorem dX7_kindNumberIn_59 : decode cX7_kindNumberIn 59 = .ok (.goto (-51), 3) := by decide +kernel
theorem dX7_kindNumberIn_62 : decode cX7_kindNumberIn 62 = .ok (.iload 4, 2) := by decide +kernel
theorem dX7_kindNumberIn_64 : decode cX7_kindNumberIn 64 = .ok (.ifCond .lt 10, 3) := by decide +kernel
theorem dX7_kindNumberIn_67 : decode cX7_kindNumberIn 67 = .ok (.iload 4, 2) := by decide +kernel
theorem dX7_kindNumberIn_69 : decode cX7_kindNumberIn 69 = .ok (.aload_n 1, 1) := by decide +kernel
theorem dX7_kindNumberIn_70 : decode cX7_kindNumberIn 70 = .ok (.arraylength, 1) := by decide +kernel
theorem dX7_kindNumberIn_71 : decode cX7_kindNumberIn 71 = .ok (.if_icmp .lt 6, 3) := by decide +kernel
theorem dX7_kindNumberIn_74 : decode cX7_kindNumberIn 74 = .ok (.bipush (-9), 2) := by decide +kernel
theorem dX7_kindNumberIn_76 : decode cX7_kindNumberIn 76 = .ok (.ireturn, 1) := by decide +kernel
theorem dX7_kindNumberIn_77 : decode cX7_kindNumberIn 77 = .ok (.aload_n 1, 1) := by decide +kernel
theorem dX7_kindNumberIn_78 : decode cX7_kindNumberIn 78 = .ok (.iload 4, 2) := by decide +kernel
theorem dX7_kindNumberIn_80 : decode cX7_kindNumberIn 80 = .ok (.iaload, 1) := by decide +kernel
theorem dX7_kindNumberIn_81 : decode cX7_kindNumberIn 81 = .ok (.iconst 3, 1) := by decide +kernel
theorem dX7_kindNumberIn_82 : decode cX7_kindNumberIn 82 = .ok (.iand, 1) := by decide +kernel
theorem dX7_kindNumberIn_83 : decode cX7_kindNumberIn 83 = .ok (.istore 6, 2) := by decide +kernel
theorem dX7_kindNumberIn_85 : decode cX7_kindNumberIn 85 = .ok (.aload_n 0, 1) := by decide +kernel
theorem dX7_kindNumberIn_86 : decode cX7_kindNumberIn 86 = .ok (.getfield 22, 3) := by decide +kernel
theorem dX7_kindNumberIn_89 : decode cX7_kindNumberIn 89 = .ok (.iload 6, 2) := by decide +kernel
theorem dX7_kindNumberIn_91 : decode cX7_kindNumberIn 91 = .ok (.iaload, 1) := by decide +kernel
theorem dX7_kindNumberIn_92 : decode cX7_kindNumberIn 92 = .ok (.istore 7, 2) := by decide +kernel
theorem dX7_kindNumberIn_94 : decode cX7_kindNumberIn 94 = .ok (.iload 7, 2) := by decide +kernel
theorem dX7_kindNumberIn_96 : decode cX7_kindNumberIn 96 = .ok (.ifCond .le 11, 3) := by decide +kernel
theorem dX7_kindNumberIn_99 : decode cX7_kindNumberIn 99 = .ok (.iload 5, 2) := by decide +kernel
theorem dX7_kindNumberIn_101 : decode cX7_kindNumberIn 101 = .ok (.iload 7, 2) := by decide +kernel
theorem dX7_kindNumberIn_103 : decode cX7_kindNumberIn 103 = .ok (.irem, 1) := by decide +kernel
theorem dX7_kindNumberIn_104 : decode cX7_kindNumberIn 104 = .ok (.goto 4, 3) := by decide +kernel
theorem dX7_kindNumberIn_107 : decode cX7_kindNumberIn 107 = .ok (.iconst 0, 1) := by decide +kernel
theorem dX7_kindNumberIn_108 : decode cX7_kindNumberIn 108 = .ok (.istore 8, 2) := by decide +kernel
theorem dX7_kindNumberIn_110 : decode cX7_kindNumberIn 110 = .ok (.iload 8, 2) := by decide +kernel
theorem dX7_kindNumberIn_112 : decode cX7_kindNumberIn 112 = .ok (.ifCond .lt 22, 3) := by decide +kernel
theorem dX7_kindNumberIn_115 : decode cX7_kindNumberIn 115 = .ok (.iload 8, 2) := by decide +kernel
theorem dX7_kindNumberIn_117 : decode cX7_kindNumberIn 117 = .ok (.iconst 3, 1) := by decide +kernel
theorem dX7_kindNumberIn_118 : decode cX7_kindNumberIn 118 = .ok (.if_icmp .ge 16, 3) := by decide +kernel
theorem dX7_kindNumberIn_121 : decode cX7_kindNumberIn 121 = .ok (.aload_n 0, 1) := by decide +kernel
theorem dX7_kindNumberIn_122 : decode cX7_kindNumberIn 122 = .ok (.getfield 19, 3) := by decide +kernel
theorem dX7_kindNumberIn_125 : decode cX7_kindNumberIn 125 = .ok (.iload 6, 2) := by decide +kernel
theorem dX7_kindNumberIn_127 : decode cX7_kindNumberIn 127 = .ok (.aaload, 1) := by decide +kernel
theorem dX7_kindNumberIn_128 : decode cX7_kindNumberIn 128 = .ok (.iload 8, 2) := by decide +kernel
theorem dX7_kindNumberIn_130 : decode cX7_kindNumberIn 130 = .ok (.iaload, 1) := by decide +kernel
theorem dX7_kindNumberIn_131 : decode cX7_kindNumberIn 131 = .ok (.goto 5, 3) := by decide +kernel
theorem dX7_kindNumberIn_134 : decode cX7_kindNumberIn 134 = .ok (.bipush (-9), 2) := by decide +kernel
theorem dX7_kindNumberIn_136 : decode cX7_kindNumberIn 136 = .ok (.ireturn, 1) := by decide +kernel
theorem dX7_countOfReadableRows_0 : decode cX7_countOfReadableRows 0 = .ok (.iload_n 1, 1) := by decide +kernel
theorem dX7_countOfReadableRows_1 : decode cX7_countOfReadableRows 1 = .ok (.invokestatic 58, 3) := by decide +kernel
theorem dX7_countOfReadableRows_4 : decode cX7_countOfReadableRows 4 = .ok (.istore_n 2, 1) := by decide +kernel
theorem dX7_countOfReadableRows_5 : decode cX7_countOfReadableRows 5 = .ok (.iconst 0, 1) := by decide +kernel
theorem dX7_countOfReadableRows_6 : decode cX7_countOfReadableRows 6 = .ok (.istore_n 3, 1) := by decide +kernel
theorem dX7_countOfReadableRows_7 : decode cX7_countOfReadableRows 7 = .ok (.iconst 0, 1) := by decide +kernel
theorem dX7_countOfReadableRows_8 : decode cX7_countOfReadableRows 8 = .ok (.istore 4, 2) := by decide +kernel
theorem dX7_countOfReadableRows_10 : decode cX7_countOfReadableRows 10 = .ok (.iload 4, 2) := by decide +kernel
theorem dX7_countOfReadableRows_12 : decode cX7_countOfReadableRows 12 = .ok (.iload_n 2, 1) := by decide +kernel
theorem dX7_countOfReadableRows_13 : decode cX7_countOfReadableRows 13 = .ok (.if_icmp .ge 36, 3) := by decide +kernel
theorem dX7_countOfReadableRows_16 : decode cX7_countOfReadableRows 16 = .ok (.aload_n 0, 1) := by decide +kernel
theorem dX7_countOfReadableRows_17 : decode cX7_countOfReadableRows 17 = .ok (.iload 4, 2) := by decide +kernel
theorem dX7_countOfReadableRows_19 : decode cX7_countOfReadableRows 19 = .ok (.iload_n 1, 1) := by decide +kernel
theorem dX7_countOfReadableRows_20 : decode cX7_countOfReadableRows 20 = .ok (.invokevirtual 62, 3) := by decide +kernel
theorem dX7_countOfReadableRows_23 : decode cX7_countOfReadableRows 23 = .ok (.iload_n 3, 1) := by decide +kernel
theorem dX7_countOfReadableRows_24 : decode cX7_countOfReadableRows 24 = .ok (.aload_n 0, 1) := by decide +kernel
theorem dX7_countOfReadableRows_25 : decode cX7_countOfReadableRows 25 = .ok (.aload_n 0, 1) := by decide +kernel
theorem dX7_countOfReadableRows_26 : decode cX7_countOfReadableRows 26 = .ok (.getfield 29, 3) := by decide +kernel
theorem dX7_countOfReadableRows_29 : decode cX7_countOfReadableRows 29 = .ok (.iload_n 1, 1) := by decide +kernel
theorem dX7_countOfReadableRows_30 : decode cX7_countOfReadableRows 30 = .ok (.invokevirtual 66, 3) := by decide +kernel
theorem dX7_countOfReadableRows_33 : decode cX7_countOfReadableRows 33 = .ok (.ifCond .lt 7, 3) := by decide +kernel
theorem dX7_countOfReadableRows_36 : decode cX7_countOfReadableRows 36 = .ok (.iconst 1, 1) := by decide +kernel
theorem dX7_countOfReadableRows_37 : decode cX7_countOfReadableRows 37 = .ok (.goto 4, 3) := by decide +kernel
theorem dX7_countOfReadableRows_40 : decode cX7_countOfReadableRows 40 = .ok (.iconst 0, 1) := by decide +kernel
theorem dX7_countOfReadableRows_41 : decode cX7_countOfReadableRows 41 = .ok (.iadd, 1) := by decide +kernel
theorem dX7_countOfReadableRows_42 : decode cX7_countOfReadableRows 42 = .ok (.istore_n 3, 1) := by decide +kernel
theorem dX7_countOfReadableRows_43 : decode cX7_countOfReadableRows 43 = .ok (.iinc 4 1, 3) := by decide +kernel
theorem dX7_countOfReadableRows_46 : decode cX7_countOfReadableRows 46 = .ok (.goto (-36), 3) := by decide +kernel
theorem dX7_countOfReadableRows_49 : decode cX7_countOfReadableRows 49 = .ok (.iload_n 3, 1) := by decide +kernel
theorem dX7_countOfReadableRows_50 : decode cX7_countOfReadableRows 50 = .ok (.ireturn, 1) := by decide +kernel
theorem dX7_findNearestRow_0 : decode cX7_findNearestRow 0 = .ok (.iload_n 2, 1) := by decide +kernel
theorem dX7_findNearestRow_1 : decode cX7_findNearestRow 1 = .ok (.invokestatic 58, 3) := by decide +kernel
theorem dX7_findNearestRow_4 : decode cX7_findNearestRow 4 = .ok (.istore_n 3, 1) := by decide +kernel
theorem dX7_findNearestRow_5 : decode cX7_findNearestRow 5 = .ok (.iconst 0, 1) := by decide +kernel
theorem dX7_findNearestRow_6 : decode cX7_findNearestRow 6 = .ok (.istore 4, 2) := by decide +kernel
theorem dX7_findNearestRow_8 : decode cX7_findNearestRow 8 = .ok (.iload 4, 2) := by decide +kernel
theorem dX7_findNearestRow_10 : decode cX7_findNearestRow 10 = .ok (.iload_n 2, 1) := by decide +kernel
theorem dX7_findNearestRow_11 : decode cX7_findNearestRow 11 = .ok (.if_icmp .gt 63, 3) := by decide +kernel
theorem dX7_findNearestRow_14 : decode cX7_findNearestRow 14 = .ok (.iload 4, 2) := by decide +kernel
theorem dX7_findNearestRow_16 : decode cX7_findNearestRow 16 = .ok (.iconst 4, 1) := by decide +kernel
theorem dX7_findNearestRow_17 : decode cX7_findNearestRow 17 = .ok (.if_icmp .gt 57, 3) := by decide +kernel
theorem dX7_findNearestRow_20 : decode cX7_findNearestRow 20 = .ok (.iconst 0, 1) := by decide +kernel
theorem dX7_findNearestRow_21 : decode cX7_findNearestRow 21 = .ok (.istore 5, 2) := by decide +kernel
theorem dX7_findNearestRow_23 : decode cX7_findNearestRow 23 = .ok (.iload 5, 2) := by decide +kernel
theorem dX7_findNearestRow_25 : decode cX7_findNearestRow 25 = .ok (.iload_n 3, 1) := by decide +kernel
theorem dX7_findNearestRow_26 : decode cX7_findNearestRow 26 = .ok (.if_icmp .ge 42, 3) := by decide +kernel
theorem dX7_findNearestRow_29 : decode cX7_findNearestRow 29 = .ok (.aload_n 0, 1) := by decide +kernel
theorem dX7_findNearestRow_30 : decode cX7_findNearestRow 30 = .ok (.iload 5, 2) := by decide +kernel
theorem dX7_findNearestRow_32 : decode cX7_findNearestRow 32 = .ok (.iload_n 2, 1) := by decide +kernel
theorem dX7_findNearestRow_33 : decode cX7_findNearestRow 33 = .ok (.invokevirtual 62, 3) := by decide +kernel
theorem dX7_findNearestRow_36 : decode cX7_findNearestRow 36 = .ok (.aload_n 0, 1) := by decide +kernel
theorem dX7_findNearestRow_37 : decode cX7_findNearestRow 37 = .ok (.aload_n 1, 1) := by decide +kernel
theorem dX7_findNearestRow_38 : decode cX7_findNearestRow 38 = .ok (.iload_n 2, 1) := by decide +kernel
theorem dX7_findNearestRow_39 : decode cX7_findNearestRow 39 = .ok (.invokevirtual 69, 3) := by decide +kernel
theorem dX7_findNearestRow_42 : decode cX7_findNearestRow 42 = .ok (.iload 4, 2) := by decide +kernel
theorem dX7_findNearestRow_44 : decode cX7_findNearestRow 44 = .ok (.if_icmp .ne 18, 3) := by decide +kernel
theorem dX7_findNearestRow_47 : decode cX7_findNearestRow 47 = .ok (.aload_n 0, 1) := by decide +kernel
theorem dX7_findNearestRow_48 : decode cX7_findNearestRow 48 = .ok (.aload_n 0, 1) := by decide +kernel
theorem dX7_findNearestRow_49 : decode cX7_findNearestRow 49 = .ok (.getfield 29, 3) := by decide +kernel
theorem dX7_findNearestRow_52 : decode cX7_findNearestRow 52 = .ok (.iload_n 2, 1) := by decide +kernel
theorem dX7_findNearestRow_53 : decode cX7_findNearestRow 53 = .ok (.invokevirtual 66, 3) := by decide +kernel
theorem dX7_findNearestRow_56 : decode cX7_findNearestRow 56 = .ok (.ifCond .lt 6, 3) := by decide +kernel
theorem dX7_findNearestRow_59 : decode cX7_findNearestRow 59 = .ok (.iload 4, 2) := by decide +kernel
theorem dX7_findNearestRow_61 : decode cX7_findNearestRow 61 = .ok (.ireturn, 1) := by decide +kernel
theorem dX7_findNearestRow_62 : decode cX7_findNearestRow 62 = .ok (.iinc 5 1, 3) := by decide +kernel
theorem dX7_findNearestRow_65 : decode cX7_findNearestRow 65 = .ok (.goto (-42), 3) := by decide +kernel
theorem dX7_findNearestRow_68 : decode cX7_findNearestRow 68 = .ok (.iinc 4 1, 3) := by decide +kernel
theorem dX7_findNearestRow_71 : decode cX7_findNearestRow 71 = .ok (.goto (-63), 3) := by decide +kernel
theorem dX7_findNearestRow_74 : decode cX7_findNearestRow 74 = .ok (.iconst (-1), 1) := by decide +kernel
theorem dX7_findNearestRow_75 : decode cX7_findNearestRow 75 = .ok (.ireturn, 1) := by decide +kernel
theorem dX7_wordOfNearestRow_0 : decode cX7_wordOfNearestRow 0 = .ok (.iload_n 1, 1) := by decide +kernel
theorem dX7_wordOfNearestRow_1 : decode cX7_wordOfNearestRow 1 = .ok (.ifCond .lt 21, 3) := by decide +kernel
theorem dX7_wordOfNearestRow_4 : decode cX7_wordOfNearestRow 4 = .ok (.iload_n 1, 1) := by decide +kernel
theorem dX7_wordOfNearestRow_5 : decode cX7_wordOfNearestRow 5 = .ok (.aload_n 0, 1) := by decide +kernel
theorem dX7_wordOfNearestRow_6 : decode cX7_wordOfNearestRow 6 = .ok (.getfield 29, 3) := by decide +kernel
theorem dX7_wordOfNearestRow_9 : decode cX7_wordOfNearestRow 9 = .ok (.arraylength, 1) := by decide +kernel
theorem dX7_wordOfNearestRow_10 : decode cX7_wordOfNearestRow 10 = .ok (.if_icmp .ge 12, 3) := by decide +kernel
theorem dX7_wordOfNearestRow_13 : decode cX7_wordOfNearestRow 13 = .ok (.aload_n 0, 1) := by decide +kernel
theorem dX7_wordOfNearestRow_14 : decode cX7_wordOfNearestRow 14 = .ok (.getfield 29, 3) := by decide +kernel
theorem dX7_wordOfNearestRow_17 : decode cX7_wordOfNearestRow 17 = .ok (.iload_n 1, 1) := by decide +kernel
theorem dX7_wordOfNearestRow_18 : decode cX7_wordOfNearestRow 18 = .ok (.iaload, 1) := by decide +kernel
theorem dX7_wordOfNearestRow_19 : decode cX7_wordOfNearestRow 19 = .ok (.goto 5, 3) := by decide +kernel
theorem dX7_wordOfNearestRow_22 : decode cX7_wordOfNearestRow 22 = .ok (.bipush (-9), 2) := by decide +kernel
theorem dX7_wordOfNearestRow_24 : decode cX7_wordOfNearestRow 24 = .ok (.ireturn, 1) := by decide +kernel
theorem dX7_countOfChoices_0 : decode cX7_countOfChoices 0 = .ok (.iconst 1, 1) := by decide +kernel
theorem dX7_countOfChoices_1 : decode cX7_countOfChoices 1 = .ok (.istore_n 3, 1) := by decide +kernel
theorem dX7_countOfChoices_2 : decode cX7_countOfChoices 2 = .ok (.iconst 0, 1) := by decide +kernel
theorem dX7_countOfChoices_3 : decode cX7_countOfChoices 3 = .ok (.istore 4, 2) := by decide +kernel
theorem dX7_countOfChoices_5 : decode cX7_countOfChoices 5 = .ok (.iload 4, 2) := by decide +kernel
theorem dX7_countOfChoices_7 : decode cX7_countOfChoices 7 = .ok (.iload_n 2, 1) := by decide +kernel
theorem dX7_countOfChoices_8 : decode cX7_countOfChoices 8 = .ok (.if_icmp .ge 30, 3) := by decide +kernel
theorem dX7_countOfChoices_11 : decode cX7_countOfChoices 11 = .ok (.iload 4, 2) := by decide +kernel
theorem dX7_countOfChoices_13 : decode cX7_countOfChoices 13 = .ok (.aload_n 1, 1) := by decide +kernel
theorem dX7_countOfChoices_14 : decode cX7_countOfChoices 14 = .ok (.arraylength, 1) := by decide +kernel
theorem dX7_countOfChoices_15 : decode cX7_countOfChoices 15 = .ok (.if_icmp .ge 23, 3) := by decide +kernel
theorem dX7_countOfChoices_18 : decode cX7_countOfChoices 18 = .ok (.iload_n 3, 1) := by decide +kernel
theorem dX7_countOfChoices_19 : decode cX7_countOfChoices 19 = .ok (.aload_n 0, 1) := by decide +kernel
theorem dX7_countOfChoices_20 : decode cX7_countOfChoices 20 = .ok (.getfield 22, 3) := by decide +kernel
theorem dX7_countOfChoices_23 : decode cX7_countOfChoices 23 = .ok (.aload_n 1, 1) := by decide +kernel
theorem dX7_countOfChoices_24 : decode cX7_countOfChoices 24 = .ok (.iload 4, 2) := by decide +kernel
theorem dX7_countOfChoices_26 : decode cX7_countOfChoices 26 = .ok (.iaload, 1) := by decide +kernel
theorem dX7_countOfChoices_27 : decode cX7_countOfChoices 27 = .ok (.iconst 3, 1) := by decide +kernel
theorem dX7_countOfChoices_28 : decode cX7_countOfChoices 28 = .ok (.iand, 1) := by decide +kernel
theorem dX7_countOfChoices_29 : decode cX7_countOfChoices 29 = .ok (.iaload, 1) := by decide +kernel
theorem dX7_countOfChoices_30 : decode cX7_countOfChoices 30 = .ok (.imul, 1) := by decide +kernel
theorem dX7_countOfChoices_31 : decode cX7_countOfChoices 31 = .ok (.istore_n 3, 1) := by decide +kernel
theorem dX7_countOfChoices_32 : decode cX7_countOfChoices 32 = .ok (.iinc 4 1, 3) := by decide +kernel
theorem dX7_countOfChoices_35 : decode cX7_countOfChoices 35 = .ok (.goto (-30), 3) := by decide +kernel
theorem dX7_countOfChoices_38 : decode cX7_countOfChoices 38 = .ok (.iload_n 3, 1) := by decide +kernel
theorem dX7_countOfChoices_39 : decode cX7_countOfChoices 39 = .ok (.ireturn, 1) := by decide +kernel
theorem dX7_meaningsOfChoice_0 : decode cX7_meaningsOfChoice 0 = .ok (.iconst 0, 1) := by decide +kernel
theorem dX7_meaningsOfChoice_1 : decode cX7_meaningsOfChoice 1 = .ok (.istore 4, 2) := by decide +kernel
theorem dX7_meaningsOfChoice_3 : decode cX7_meaningsOfChoice 3 = .ok (.iload 4, 2) := by decide +kernel
theorem dX7_meaningsOfChoice_5 : decode cX7_meaningsOfChoice 5 = .ok (.iload_n 2, 1) := by decide +kernel
theorem dX7_meaningsOfChoice_6 : decode cX7_meaningsOfChoice 6 = .ok (.if_icmp .ge 61, 3) := by decide +kernel
theorem dX7_meaningsOfChoice_9 : decode cX7_meaningsOfChoice 9 = .ok (.iload 4, 2) := by decide +kernel
theorem dX7_meaningsOfChoice_11 : decode cX7_meaningsOfChoice 11 = .ok (.aload_n 0, 1) := by decide +kernel
theorem dX7_meaningsOfChoice_12 : decode cX7_meaningsOfChoice 12 = .ok (.getfield 26, 3) := by decide +kernel
theorem dX7_meaningsOfChoice_15 : decode cX7_meaningsOfChoice 15 = .ok (.arraylength, 1) := by decide +kernel
theorem dX7_meaningsOfChoice_16 : decode cX7_meaningsOfChoice 16 = .ok (.if_icmp .ge 51, 3) := by decide +kernel
theorem dX7_meaningsOfChoice_19 : decode cX7_meaningsOfChoice 19 = .ok (.aload_n 0, 1) := by decide +kernel
theorem dX7_meaningsOfChoice_20 : decode cX7_meaningsOfChoice 20 = .ok (.aload_n 1, 1) := by decide +kernel
theorem dX7_meaningsOfChoice_21 : decode cX7_meaningsOfChoice 21 = .ok (.iload_n 2, 1) := by decide +kernel
theorem dX7_meaningsOfChoice_22 : decode cX7_meaningsOfChoice 22 = .ok (.iload_n 3, 1) := by decide +kernel
theorem dX7_meaningsOfChoice_23 : decode cX7_meaningsOfChoice 23 = .ok (.iload 4, 2) := by decide +kernel
theorem dX7_meaningsOfChoice_25 : decode cX7_meaningsOfChoice 25 = .ok (.invokevirtual 72, 3) := by decide +kernel
theorem dX7_meaningsOfChoice_28 : decode cX7_meaningsOfChoice 28 = .ok (.istore 5, 2) := by decide +kernel
theorem dX7_meaningsOfChoice_30 : decode cX7_meaningsOfChoice 30 = .ok (.iload 5, 2) := by decide +kernel
theorem dX7_meaningsOfChoice_32 : decode cX7_meaningsOfChoice 32 = .ok (.ifCond .lt 13, 3) := by decide +kernel
theorem dX7_meaningsOfChoice_35 : decode cX7_meaningsOfChoice 35 = .ok (.iload 5, 2) := by decide +kernel
theorem dX7_meaningsOfChoice_37 : decode cX7_meaningsOfChoice 37 = .ok (.aload_n 0, 1) := by decide +kernel
theorem dX7_meaningsOfChoice_38 : decode cX7_meaningsOfChoice 38 = .ok (.getfield 11, 3) := by decide +kernel
theorem dX7_meaningsOfChoice_41 : decode cX7_meaningsOfChoice 41 = .ok (.arraylength, 1) := by decide +kernel
theorem dX7_meaningsOfChoice_42 : decode cX7_meaningsOfChoice 42 = .ok (.if_icmp .lt 5, 3) := by decide +kernel
theorem dX7_meaningsOfChoice_45 : decode cX7_meaningsOfChoice 45 = .ok (.iconst 0, 1) := by decide +kernel
theorem dX7_meaningsOfChoice_46 : decode cX7_meaningsOfChoice 46 = .ok (.ireturn, 1) := by decide +kernel
theorem dX7_meaningsOfChoice_47 : decode cX7_meaningsOfChoice 47 = .ok (.aload_n 0, 1) := by decide +kernel
theorem dX7_meaningsOfChoice_48 : decode cX7_meaningsOfChoice 48 = .ok (.getfield 26, 3) := by decide +kernel
theorem dX7_meaningsOfChoice_51 : decode cX7_meaningsOfChoice 51 = .ok (.iload 4, 2) := by decide +kernel
theorem dX7_meaningsOfChoice_53 : decode cX7_meaningsOfChoice 53 = .ok (.aload_n 0, 1) := by decide +kernel
theorem dX7_meaningsOfChoice_54 : decode cX7_meaningsOfChoice 54 = .ok (.getfield 11, 3) := by decide +kernel
theorem dX7_meaningsOfChoice_57 : decode cX7_meaningsOfChoice 57 = .ok (.iload 5, 2) := by decide +kernel
theorem dX7_meaningsOfChoice_59 : decode cX7_meaningsOfChoice 59 = .ok (.aaload, 1) := by decide +kernel
theorem dX7_meaningsOfChoice_60 : decode cX7_meaningsOfChoice 60 = .ok (.aastore, 1) := by decide +kernel
theorem dX7_meaningsOfChoice_61 : decode cX7_meaningsOfChoice 61 = .ok (.iinc 4 1, 3) := by decide +kernel
theorem dX7_meaningsOfChoice_64 : decode cX7_meaningsOfChoice 64 = .ok (.goto (-61), 3) := by decide +kernel
theorem dX7_meaningsOfChoice_67 : decode cX7_meaningsOfChoice 67 = .ok (.aload_n 0, 1) := by decide +kernel
theorem dX7_meaningsOfChoice_68 : decode cX7_meaningsOfChoice 68 = .ok (.getfield 26, 3) := by decide +kernel
theorem dX7_meaningsOfChoice_71 : decode cX7_meaningsOfChoice 71 = .ok (.iload_n 2, 1) := by decide +kernel
theorem dX7_meaningsOfChoice_72 : decode cX7_meaningsOfChoice 72 = .ok (.aload_n 0, 1) := by decide +kernel
theorem dX7_meaningsOfChoice_73 : decode cX7_meaningsOfChoice 73 = .ok (.getfield 44, 3) := by decide +kernel
theorem dX7_meaningsOfChoice_76 : decode cX7_meaningsOfChoice 76 = .ok (.invokestatic 76, 3) := by decide +kernel
theorem dX7_meaningsOfChoice_79 : decode cX7_meaningsOfChoice 79 = .ok (.ifCond .ne 5, 3) := by decide +kernel
theorem dX7_meaningsOfChoice_82 : decode cX7_meaningsOfChoice 82 = .ok (.iconst 0, 1) := by decide +kernel
theorem dX7_meaningsOfChoice_83 : decode cX7_meaningsOfChoice 83 = .ok (.ireturn, 1) := by decide +kernel
theorem dX7_meaningsOfChoice_84 : decode cX7_meaningsOfChoice 84 = .ok (.aload_n 0, 1) := by decide +kernel
theorem dX7_meaningsOfChoice_85 : decode cX7_meaningsOfChoice 85 = .ok (.getfield 36, 3) := by decide +kernel
theorem dX7_meaningsOfChoice_88 : decode cX7_meaningsOfChoice 88 = .ok (.aload_n 0, 1) := by decide +kernel
theorem dX7_meaningsOfChoice_89 : decode cX7_meaningsOfChoice 89 = .ok (.getfield 26, 3) := by decide +kernel
theorem dX7_meaningsOfChoice_92 : decode cX7_meaningsOfChoice 92 = .ok (.iload_n 2, 1) := by decide +kernel
theorem dX7_meaningsOfChoice_93 : decode cX7_meaningsOfChoice 93 = .ok (.aload_n 0, 1) := by decide +kernel
theorem dX7_meaningsOfChoice_94 : decode cX7_meaningsOfChoice 94 = .ok (.getfield 44, 3) := by decide +kernel
theorem dX7_meaningsOfChoice_97 : decode cX7_meaningsOfChoice 97 = .ok (.aload_n 0, 1) := by decide +kernel
theorem dX7_meaningsOfChoice_98 : decode cX7_meaningsOfChoice 98 = .ok (.getfield 32, 3) := by decide +kernel
theorem dX7_meaningsOfChoice_101 : decode cX7_meaningsOfChoice 101 = .ok (.invokevirtual 82, 3) := by decide +kernel
theorem dX7_meaningsOfChoice_104 : decode cX7_meaningsOfChoice 104 = .ok (.ireturn, 1) := by decide +kernel
theorem dX7_countOfRows_0 : decode cX7_countOfRows 0 = .ok (.iconst 1, 1) := by decide +kernel
theorem dX7_countOfRows_1 : decode cX7_countOfRows 1 = .ok (.istore_n 1, 1) := by decide +kernel
theorem dX7_countOfRows_2 : decode cX7_countOfRows 2 = .ok (.iconst 0, 1) := by decide +kernel
theorem dX7_countOfRows_3 : decode cX7_countOfRows 3 = .ok (.istore_n 2, 1) := by decide +kernel
theorem dX7_countOfRows_4 : decode cX7_countOfRows 4 = .ok (.iload_n 2, 1) := by decide +kernel
theorem dX7_countOfRows_5 : decode cX7_countOfRows 5 = .ok (.iload_n 0, 1) := by decide +kernel
theorem dX7_countOfRows_6 : decode cX7_countOfRows 6 = .ok (.if_icmp .ge 18, 3) := by decide +kernel
theorem dX7_countOfRows_9 : decode cX7_countOfRows 9 = .ok (.iload_n 2, 1) := by decide +kernel
theorem dX7_countOfRows_10 : decode cX7_countOfRows 10 = .ok (.iconst 4, 1) := by decide +kernel
theorem dX7_countOfRows_11 : decode cX7_countOfRows 11 = .ok (.if_icmp .ge 13, 3) := by decide +kernel
theorem dX7_countOfRows_14 : decode cX7_countOfRows 14 = .ok (.iload_n 1, 1) := by decide +kernel
theorem dX7_countOfRows_15 : decode cX7_countOfRows 15 = .ok (.iconst 4, 1) := by decide +kernel
theorem dX7_countOfRows_16 : decode cX7_countOfRows 16 = .ok (.imul, 1) := by decide +kernel
theorem dX7_countOfRows_17 : decode cX7_countOfRows 17 = .ok (.istore_n 1, 1) := by decide +kernel
theorem dX7_countOfRows_18 : decode cX7_countOfRows 18 = .ok (.iinc 2 1, 3) := by decide +kernel
theorem dX7_countOfRows_21 : decode cX7_countOfRows 21 = .ok (.goto (-17), 3) := by decide +kernel
theorem dX7_countOfRows_24 : decode cX7_countOfRows 24 = .ok (.iload_n 1, 1) := by decide +kernel
theorem dX7_countOfRows_25 : decode cX7_countOfRows 25 = .ok (.ireturn, 1) := by decide +kernel
theorem dX7_tryRow_0 : decode cX7_tryRow 0 = .ok (.iload_n 1, 1) := by decide +kernel
theorem dX7_tryRow_1 : decode cX7_tryRow 1 = .ok (.istore_n 3, 1) := by decide +kernel
theorem dX7_tryRow_2 : decode cX7_tryRow 2 = .ok (.iload_n 2, 1) := by decide +kernel
theorem dX7_tryRow_3 : decode cX7_tryRow 3 = .ok (.aload_n 0, 1) := by decide +kernel
theorem dX7_tryRow_4 : decode cX7_tryRow 4 = .ok (.getfield 29, 3) := by decide +kernel
theorem dX7_tryRow_7 : decode cX7_tryRow 7 = .ok (.arraylength, 1) := by decide +kernel
theorem dX7_tryRow_8 : decode cX7_tryRow 8 = .ok (.invokestatic 86, 3) := by decide +kernel
theorem dX7_tryRow_11 : decode cX7_tryRow 11 = .ok (.iconst 1, 1) := by decide +kernel
theorem dX7_tryRow_12 : decode cX7_tryRow 12 = .ok (.isub, 1) := by decide +kernel
theorem dX7_tryRow_13 : decode cX7_tryRow 13 = .ok (.istore 4, 2) := by decide +kernel
theorem dX7_tryRow_15 : decode cX7_tryRow 15 = .ok (.iload 4, 2) := by decide +kernel
theorem dX7_tryRow_17 : decode cX7_tryRow 17 = .ok (.ifCond .lt 25, 3) := by decide +kernel
theorem dX7_tryRow_20 : decode cX7_tryRow 20 = .ok (.aload_n 0, 1) := by decide +kernel
theorem dX7_tryRow_21 : decode cX7_tryRow 21 = .ok (.getfield 29, 3) := by decide +kernel
theorem dX7_tryRow_24 : decode cX7_tryRow 24 = .ok (.iload 4, 2) := by decide +kernel
theorem dX7_tryRow_26 : decode cX7_tryRow 26 = .ok (.iload_n 3, 1) := by decide +kernel
theorem dX7_tryRow_27 : decode cX7_tryRow 27 = .ok (.iconst 4, 1) := by decide +kernel
theorem dX7_tryRow_28 : decode cX7_tryRow 28 = .ok (.invokestatic 92, 3) := by decide +kernel
theorem dX7_tryRow_31 : decode cX7_tryRow 31 = .ok (.iastore, 1) := by decide +kernel
theorem dX7_tryRow_32 : decode cX7_tryRow 32 = .ok (.iload_n 3, 1) := by decide +kernel
theorem dX7_tryRow_33 : decode cX7_tryRow 33 = .ok (.iconst 4, 1) := by decide +kernel
theorem dX7_tryRow_34 : decode cX7_tryRow 34 = .ok (.idiv, 1) := by decide +kernel
theorem dX7_tryRow_35 : decode cX7_tryRow 35 = .ok (.istore_n 3, 1) := by decide +kernel
theorem dX7_tryRow_36 : decode cX7_tryRow 36 = .ok (.iinc 4 (-1), 3) := by decide +kernel
theorem dX7_tryRow_39 : decode cX7_tryRow 39 = .ok (.goto (-24), 3) := by decide +kernel
theorem dX7_tryRow_42 : decode cX7_tryRow 42 = .ok (.return_, 1) := by decide +kernel
theorem dX7_changesOf_0 : decode cX7_changesOf 0 = .ok (.iconst 0, 1) := by decide +kernel
theorem dX7_changesOf_1 : decode cX7_changesOf 1 = .ok (.istore_n 3, 1) := by decide +kernel
theorem dX7_changesOf_2 : decode cX7_changesOf 2 = .ok (.iconst 0, 1) := by decide +kernel
theorem dX7_changesOf_3 : decode cX7_changesOf 3 = .ok (.istore 4, 2) := by decide +kernel
theorem dX7_changesOf_5 : decode cX7_changesOf 5 = .ok (.iload 4, 2) := by decide +kernel
theorem dX7_changesOf_7 : decode cX7_changesOf 7 = .ok (.iload_n 2, 1) := by decide +kernel
theorem dX7_changesOf_8 : decode cX7_changesOf 8 = .ok (.if_icmp .ge 48, 3) := by decide +kernel
theorem dX7_changesOf_11 : decode cX7_changesOf 11 = .ok (.iload 4, 2) := by decide +kernel
theorem dX7_changesOf_13 : decode cX7_changesOf 13 = .ok (.aload_n 0, 1) := by decide +kernel
theorem dX7_changesOf_14 : decode cX7_changesOf 14 = .ok (.getfield 29, 3) := by decide +kernel
theorem dX7_changesOf_17 : decode cX7_changesOf 17 = .ok (.arraylength, 1) := by decide +kernel
theorem dX7_changesOf_18 : decode cX7_changesOf 18 = .ok (.if_icmp .ge 38, 3) := by decide +kernel
theorem dX7_changesOf_21 : decode cX7_changesOf 21 = .ok (.iload 4, 2) := by decide +kernel
theorem dX7_changesOf_23 : decode cX7_changesOf 23 = .ok (.aload_n 1, 1) := by decide +kernel
theorem dX7_changesOf_24 : decode cX7_changesOf 24 = .ok (.arraylength, 1) := by decide +kernel
theorem dX7_changesOf_25 : decode cX7_changesOf 25 = .ok (.if_icmp .ge 31, 3) := by decide +kernel
theorem dX7_changesOf_28 : decode cX7_changesOf 28 = .ok (.iload_n 3, 1) := by decide +kernel
theorem dX7_changesOf_29 : decode cX7_changesOf 29 = .ok (.aload_n 0, 1) := by decide +kernel
theorem dX7_changesOf_30 : decode cX7_changesOf 30 = .ok (.getfield 29, 3) := by decide +kernel
theorem dX7_changesOf_33 : decode cX7_changesOf 33 = .ok (.iload 4, 2) := by decide +kernel
theorem dX7_changesOf_35 : decode cX7_changesOf 35 = .ok (.iaload, 1) := by decide +kernel
theorem dX7_changesOf_36 : decode cX7_changesOf 36 = .ok (.aload_n 1, 1) := by decide +kernel
theorem dX7_changesOf_37 : decode cX7_changesOf 37 = .ok (.iload 4, 2) := by decide +kernel
theorem dX7_changesOf_39 : decode cX7_changesOf 39 = .ok (.iaload, 1) := by decide +kernel
theorem dX7_changesOf_40 : decode cX7_changesOf 40 = .ok (.if_icmp .eq 7, 3) := by decide +kernel
theorem dX7_changesOf_43 : decode cX7_changesOf 43 = .ok (.iconst 1, 1) := by decide +kernel
theorem dX7_changesOf_44 : decode cX7_changesOf 44 = .ok (.goto 4, 3) := by decide +kernel
theorem dX7_changesOf_47 : decode cX7_changesOf 47 = .ok (.iconst 0, 1) := by decide +kernel
theorem dX7_changesOf_48 : decode cX7_changesOf 48 = .ok (.iadd, 1) := by decide +kernel
theorem dX7_changesOf_49 : decode cX7_changesOf 49 = .ok (.istore_n 3, 1) := by decide +kernel
theorem dX7_changesOf_50 : decode cX7_changesOf 50 = .ok (.iinc 4 1, 3) := by decide +kernel
theorem dX7_changesOf_53 : decode cX7_changesOf 53 = .ok (.goto (-48), 3) := by decide +kernel
theorem dX7_changesOf_56 : decode cX7_changesOf 56 = .ok (.iload_n 3, 1) := by decide +kernel
theorem dX7_changesOf_57 : decode cX7_changesOf 57 = .ok (.ireturn, 1) := by decide +kernel
