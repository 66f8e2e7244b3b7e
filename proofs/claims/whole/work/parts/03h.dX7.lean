theorem dX7_init_0 : decode cX7_init 0 = .ok (.aload_n 0, 1) := by decide +kernel
theorem dX7_init_1 : decode cX7_init 1 = .ok (.invokespecial 3, 3) := by decide +kernel
theorem dX7_init_4 : decode cX7_init 4 = .ok (.aload_n 0, 1) := by decide +kernel
theorem dX7_init_5 : decode cX7_init 5 = .ok (.bipush 12, 2) := by decide +kernel
theorem dX7_init_7 : decode cX7_init 7 = .ok (.anewarray 9, 3) := by decide +kernel
theorem dX7_init_10 : decode cX7_init 10 = .ok (.putfield 11, 3) := by decide +kernel
theorem dX7_init_13 : decode cX7_init 13 = .ok (.aload_n 0, 1) := by decide +kernel
theorem dX7_init_14 : decode cX7_init 14 = .ok (.iconst 4, 1) := by decide +kernel
theorem dX7_init_15 : decode cX7_init 15 = .ok (.iconst 3, 1) := by decide +kernel
theorem dX7_init_16 : decode cX7_init 16 = .ok (.multianewarray 17 2, 4) := by decide +kernel
theorem dX7_init_20 : decode cX7_init 20 = .ok (.putfield 19, 3) := by decide +kernel
theorem dX7_init_23 : decode cX7_init 23 = .ok (.aload_n 0, 1) := by decide +kernel
theorem dX7_init_24 : decode cX7_init 24 = .ok (.iconst 4, 1) := by decide +kernel
theorem dX7_init_25 : decode cX7_init 25 = .ok (.newarray .int, 2) := by decide +kernel
theorem dX7_init_27 : decode cX7_init 27 = .ok (.putfield 22, 3) := by decide +kernel
theorem dX7_init_30 : decode cX7_init 30 = .ok (.aload_n 0, 1) := by decide +kernel
theorem dX7_init_31 : decode cX7_init 31 = .ok (.bipush 6, 2) := by decide +kernel
theorem dX7_init_33 : decode cX7_init 33 = .ok (.newarray .int, 2) := by decide +kernel
theorem dX7_init_35 : decode cX7_init 35 = .ok (.putfield 26, 3) := by decide +kernel
theorem dX7_init_38 : decode cX7_init 38 = .ok (.aload_n 0, 1) := by decide +kernel
theorem dX7_init_39 : decode cX7_init 39 = .ok (.bipush 6, 2) := by decide +kernel
theorem dX7_init_41 : decode cX7_init 41 = .ok (.anewarray 9, 3) := by decide +kernel
theorem dX7_init_44 : decode cX7_init 44 = .ok (.putfield 29, 3) := by decide +kernel
theorem dX7_init_47 : decode cX7_init 47 = .ok (.aload_n 0, 1) := by decide +kernel
theorem dX7_init_48 : decode cX7_init 48 = .ok (.bipush 7, 2) := by decide +kernel
theorem dX7_init_50 : decode cX7_init 50 = .ok (.newarray .long, 2) := by decide +kernel
theorem dX7_init_52 : decode cX7_init 52 = .ok (.putfield 32, 3) := by decide +kernel
theorem dX7_init_55 : decode cX7_init 55 = .ok (.aload_n 0, 1) := by decide +kernel
theorem dX7_init_56 : decode cX7_init 56 = .ok (.iconst 4, 1) := by decide +kernel
theorem dX7_init_57 : decode cX7_init 57 = .ok (.newarray .int, 2) := by decide +kernel
theorem dX7_init_59 : decode cX7_init 59 = .ok (.putfield 36, 3) := by decide +kernel
theorem dX7_init_62 : decode cX7_init 62 = .ok (.aload_n 0, 1) := by decide +kernel
theorem dX7_init_63 : decode cX7_init 63 = .ok (.iconst 1, 1) := by decide +kernel
theorem dX7_init_64 : decode cX7_init 64 = .ok (.putfield 39, 3) := by decide +kernel
theorem dX7_init_67 : decode cX7_init 67 = .ok (.aload_n 0, 1) := by decide +kernel
theorem dX7_init_68 : decode cX7_init 68 = .ok (.aload_n 1, 1) := by decide +kernel
theorem dX7_init_69 : decode cX7_init 69 = .ok (.putfield 43, 3) := by decide +kernel
theorem dX7_init_72 : decode cX7_init 72 = .ok (.aload_n 0, 1) := by decide +kernel
theorem dX7_init_73 : decode cX7_init 73 = .ok (.iconst 0, 1) := by decide +kernel
theorem dX7_init_74 : decode cX7_init 74 = .ok (.invokestatic 47, 3) := by decide +kernel
theorem dX7_init_77 : decode cX7_init 77 = .ok (.putfield 51, 3) := by decide +kernel
theorem dX7_init_80 : decode cX7_init 80 = .ok (.iconst 0, 1) := by decide +kernel
theorem dX7_init_81 : decode cX7_init 81 = .ok (.istore_n 2, 1) := by decide +kernel
theorem dX7_init_82 : decode cX7_init 82 = .ok (.iload_n 2, 1) := by decide +kernel
theorem dX7_init_83 : decode cX7_init 83 = .ok (.aload_n 0, 1) := by decide +kernel
theorem dX7_init_84 : decode cX7_init 84 = .ok (.getfield 11, 3) := by decide +kernel
theorem dX7_init_87 : decode cX7_init 87 = .ok (.arraylength, 1) := by decide +kernel
theorem dX7_init_88 : decode cX7_init 88 = .ok (.if_icmp .ge 19, 3) := by decide +kernel
theorem dX7_init_91 : decode cX7_init 91 = .ok (.aload_n 0, 1) := by decide +kernel
theorem dX7_init_92 : decode cX7_init 92 = .ok (.getfield 11, 3) := by decide +kernel
theorem dX7_init_95 : decode cX7_init 95 = .ok (.iload_n 2, 1) := by decide +kernel
theorem dX7_init_96 : decode cX7_init 96 = .ok (.aload_n 0, 1) := by decide +kernel
theorem dX7_init_97 : decode cX7_init 97 = .ok (.getfield 51, 3) := by decide +kernel
theorem dX7_init_100 : decode cX7_init 100 = .ok (.aastore, 1) := by decide +kernel
theorem dX7_init_101 : decode cX7_init 101 = .ok (.iinc 2 1, 3) := by decide +kernel
theorem dX7_init_104 : decode cX7_init 104 = .ok (.goto (-22), 3) := by decide +kernel
theorem dX7_init_107 : decode cX7_init 107 = .ok (.iconst 0, 1) := by decide +kernel
theorem dX7_init_108 : decode cX7_init 108 = .ok (.istore_n 2, 1) := by decide +kernel
theorem dX7_init_109 : decode cX7_init 109 = .ok (.iload_n 2, 1) := by decide +kernel
theorem dX7_init_110 : decode cX7_init 110 = .ok (.aload_n 0, 1) := by decide +kernel
theorem dX7_init_111 : decode cX7_init 111 = .ok (.getfield 29, 3) := by decide +kernel
theorem dX7_init_114 : decode cX7_init 114 = .ok (.arraylength, 1) := by decide +kernel
theorem dX7_init_115 : decode cX7_init 115 = .ok (.if_icmp .ge 19, 3) := by decide +kernel
theorem dX7_init_118 : decode cX7_init 118 = .ok (.aload_n 0, 1) := by decide +kernel
theorem dX7_init_119 : decode cX7_init 119 = .ok (.getfield 29, 3) := by decide +kernel
theorem dX7_init_122 : decode cX7_init 122 = .ok (.iload_n 2, 1) := by decide +kernel
theorem dX7_init_123 : decode cX7_init 123 = .ok (.aload_n 0, 1) := by decide +kernel
theorem dX7_init_124 : decode cX7_init 124 = .ok (.getfield 51, 3) := by decide +kernel
theorem dX7_init_127 : decode cX7_init 127 = .ok (.aastore, 1) := by decide +kernel
theorem dX7_init_128 : decode cX7_init 128 = .ok (.iinc 2 1, 3) := by decide +kernel
theorem dX7_init_131 : decode cX7_init 131 = .ok (.goto (-22), 3) := by decide +kernel
theorem dX7_init_134 : decode cX7_init 134 = .ok (.return_, 1) := by decide +kernel
theorem dX7_open_0 : decode cX7_open 0 = .ok (.aload_n 0, 1) := by decide +kernel
theorem dX7_open_1 : decode cX7_open 1 = .ok (.aload_n 3, 1) := by decide +kernel
theorem dX7_open_2 : decode cX7_open 2 = .ok (.putfield 51, 3) := by decide +kernel
theorem dX7_open_5 : decode cX7_open 5 = .ok (.aload_n 0, 1) := by decide +kernel
theorem dX7_open_6 : decode cX7_open 6 = .ok (.iload 4, 2) := by decide +kernel
theorem dX7_open_8 : decode cX7_open 8 = .ok (.putfield 39, 3) := by decide +kernel
theorem dX7_open_11 : decode cX7_open 11 = .ok (.iconst 0, 1) := by decide +kernel
theorem dX7_open_12 : decode cX7_open 12 = .ok (.istore 5, 2) := by decide +kernel
theorem dX7_open_14 : decode cX7_open 14 = .ok (.iload 5, 2) := by decide +kernel
theorem dX7_open_16 : decode cX7_open 16 = .ok (.aload_n 0, 1) := by decide +kernel
theorem dX7_open_17 : decode cX7_open 17 = .ok (.getfield 11, 3) := by decide +kernel
theorem dX7_open_20 : decode cX7_open 20 = .ok (.arraylength, 1) := by decide +kernel
theorem dX7_open_21 : decode cX7_open 21 = .ok (.if_icmp .ge 27, 3) := by decide +kernel
theorem dX7_open_24 : decode cX7_open 24 = .ok (.iload 5, 2) := by decide +kernel
theorem dX7_open_26 : decode cX7_open 26 = .ok (.aload_n 1, 1) := by decide +kernel
theorem dX7_open_27 : decode cX7_open 27 = .ok (.arraylength, 1) := by decide +kernel
theorem dX7_open_28 : decode cX7_open 28 = .ok (.if_icmp .ge 20, 3) := by decide +kernel
theorem dX7_open_31 : decode cX7_open 31 = .ok (.aload_n 0, 1) := by decide +kernel
theorem dX7_open_32 : decode cX7_open 32 = .ok (.getfield 11, 3) := by decide +kernel
theorem dX7_open_35 : decode cX7_open 35 = .ok (.iload 5, 2) := by decide +kernel
theorem dX7_open_37 : decode cX7_open 37 = .ok (.aload_n 1, 1) := by decide +kernel
theorem dX7_open_38 : decode cX7_open 38 = .ok (.iload 5, 2) := by decide +kernel
theorem dX7_open_40 : decode cX7_open 40 = .ok (.aaload, 1) := by decide +kernel
theorem dX7_open_41 : decode cX7_open 41 = .ok (.aastore, 1) := by decide +kernel
theorem dX7_open_42 : decode cX7_open 42 = .ok (.iinc 5 1, 3) := by decide +kernel
theorem dX7_open_45 : decode cX7_open 45 = .ok (.goto (-31), 3) := by decide +kernel
theorem dX7_open_48 : decode cX7_open 48 = .ok (.iconst 0, 1) := by decide +kernel
theorem dX7_open_49 : decode cX7_open 49 = .ok (.istore 5, 2) := by decide +kernel
theorem dX7_open_51 : decode cX7_open 51 = .ok (.iload 5, 2) := by decide +kernel
theorem dX7_open_53 : decode cX7_open 53 = .ok (.iconst 4, 1) := by decide +kernel
theorem dX7_open_54 : decode cX7_open 54 = .ok (.if_icmp .ge 78, 3) := by decide +kernel
theorem dX7_open_57 : decode cX7_open 57 = .ok (.iload 5, 2) := by decide +kernel
theorem dX7_open_59 : decode cX7_open 59 = .ok (.aload_n 2, 1) := by decide +kernel
theorem dX7_open_60 : decode cX7_open 60 = .ok (.arraylength, 1) := by decide +kernel
theorem dX7_open_61 : decode cX7_open 61 = .ok (.if_icmp .ge 71, 3) := by decide +kernel
theorem dX7_open_64 : decode cX7_open 64 = .ok (.iconst 0, 1) := by decide +kernel
theorem dX7_open_65 : decode cX7_open 65 = .ok (.istore 6, 2) := by decide +kernel
theorem dX7_open_67 : decode cX7_open 67 = .ok (.iconst 0, 1) := by decide +kernel
theorem dX7_open_68 : decode cX7_open 68 = .ok (.istore 7, 2) := by decide +kernel
theorem dX7_open_70 : decode cX7_open 70 = .ok (.iload 7, 2) := by decide +kernel
theorem dX7_open_72 : decode cX7_open 72 = .ok (.bipush 12, 2) := by decide +kernel
theorem dX7_open_74 : decode cX7_open 74 = .ok (.if_icmp .ge 43, 3) := by decide +kernel
theorem dX7_open_77 : decode cX7_open 77 = .ok (.iload 6, 2) := by decide +kernel
theorem dX7_open_79 : decode cX7_open 79 = .ok (.iconst 3, 1) := by decide +kernel
theorem dX7_open_80 : decode cX7_open 80 = .ok (.if_icmp .ge 37, 3) := by decide +kernel
theorem dX7_open_83 : decode cX7_open 83 = .ok (.aload_n 2, 1) := by decide +kernel
theorem dX7_open_84 : decode cX7_open 84 = .ok (.iload 5, 2) := by decide +kernel
theorem dX7_open_86 : decode cX7_open 86 = .ok (.iaload, 1) := by decide +kernel
theorem dX7_open_87 : decode cX7_open 87 = .ok (.iload 7, 2) := by decide +kernel
theorem dX7_open_89 : decode cX7_open 89 = .ok (.ishr, 1) := by decide +kernel
theorem dX7_open_90 : decode cX7_open 90 = .ok (.iconst 1, 1) := by decide +kernel
theorem dX7_open_91 : decode cX7_open 91 = .ok (.iand, 1) := by decide +kernel
theorem dX7_open_92 : decode cX7_open 92 = .ok (.iconst 1, 1) := by decide +kernel
theorem dX7_open_93 : decode cX7_open 93 = .ok (.if_icmp .ne 18, 3) := by decide +kernel
theorem dX7_open_96 : decode cX7_open 96 = .ok (.aload_n 0, 1) := by decide +kernel
theorem dX7_open_97 : decode cX7_open 97 = .ok (.getfield 19, 3) := by decide +kernel
theorem dX7_open_100 : decode cX7_open 100 = .ok (.iload 5, 2) := by decide +kernel
theorem dX7_open_102 : decode cX7_open 102 = .ok (.aaload, 1) := by decide +kernel
theorem dX7_open_103 : decode cX7_open 103 = .ok (.iload 6, 2) := by decide +kernel
theorem dX7_open_105 : decode cX7_open 105 = .ok (.iload 7, 2) := by decide +kernel
theorem dX7_open_107 : decode cX7_open 107 = .ok (.iastore, 1) := by decide +kernel
theorem dX7_open_108 : decode cX7_open 108 = .ok (.iinc 6 1, 3) := by decide +kernel
theorem dX7_open_111 : decode cX7_open 111 = .ok (.iinc 7 1, 3) := by decide +kernel
theorem dX7_open_114 : decode cX7_open 114 = .ok (.goto (-44), 3) := by decide +kernel
theorem dX7_open_117 : decode cX7_open 117 = .ok (.aload_n 0, 1) := by decide +kernel
theorem dX7_open_118 : decode cX7_open 118 = .ok (.getfield 22, 3) := by decide +kernel
theorem dX7_open_121 : decode cX7_open 121 = .ok (.iload 5, 2) := by decide +kernel
theorem dX7_open_123 : decode cX7_open 123 = .ok (.iload 6, 2) := by decide +kernel
theorem dX7_open_125 : decode cX7_open 125 = .ok (.iastore, 1) := by decide +kernel
theorem dX7_open_126 : decode cX7_open 126 = .ok (.iinc 5 1, 3) := by decide +kernel
theorem dX7_open_129 : decode cX7_open 129 = .ok (.goto (-78), 3) := by decide +kernel
theorem dX7_open_132 : decode cX7_open 132 = .ok (.return_, 1) := by decide +kernel
theorem dX7_countOfReadings_0 : decode cX7_countOfReadings 0 = .ok (.iconst 0, 1) := by decide +kernel
theorem dX7_countOfReadings_1 : decode cX7_countOfReadings 1 = .ok (.istore_n 3, 1) := by decide +kernel
theorem dX7_countOfReadings_2 : decode cX7_countOfReadings 2 = .ok (.aload_n 0, 1) := by decide +kernel
theorem dX7_countOfReadings_3 : decode cX7_countOfReadings 3 = .ok (.aload_n 1, 1) := by decide +kernel
theorem dX7_countOfReadings_4 : decode cX7_countOfReadings 4 = .ok (.iload_n 2, 1) := by decide +kernel
theorem dX7_countOfReadings_5 : decode cX7_countOfReadings 5 = .ok (.invokevirtual 55, 3) := by decide +kernel
theorem dX7_countOfReadings_8 : decode cX7_countOfReadings 8 = .ok (.istore 4, 2) := by decide +kernel
theorem dX7_countOfReadings_10 : decode cX7_countOfReadings 10 = .ok (.iconst 0, 1) := by decide +kernel
theorem dX7_countOfReadings_11 : decode cX7_countOfReadings 11 = .ok (.istore 5, 2) := by decide +kernel
theorem dX7_countOfReadings_13 : decode cX7_countOfReadings 13 = .ok (.iload 4, 2) := by decide +kernel
theorem dX7_countOfReadings_15 : decode cX7_countOfReadings 15 = .ok (.ifCond .eq 64, 3) := by decide +kernel
theorem dX7_countOfReadings_18 : decode cX7_countOfReadings 18 = .ok (.iload 5, 2) := by decide +kernel
theorem dX7_countOfReadings_20 : decode cX7_countOfReadings 20 = .ok (.sipush 729, 3) := by decide +kernel
theorem dX7_countOfReadings_23 : decode cX7_countOfReadings 23 = .ok (.if_icmp .ge 56, 3) := by decide +kernel
theorem dX7_countOfReadings_26 : decode cX7_countOfReadings 26 = .ok (.iload_n 3, 1) := by decide +kernel
theorem dX7_countOfReadings_27 : decode cX7_countOfReadings 27 = .ok (.aload_n 0, 1) := by decide +kernel
theorem dX7_countOfReadings_28 : decode cX7_countOfReadings 28 = .ok (.iload_n 2, 1) := by decide +kernel
theorem dX7_countOfReadings_29 : decode cX7_countOfReadings 29 = .ok (.invokevirtual 59, 3) := by decide +kernel
theorem dX7_countOfReadings_32 : decode cX7_countOfReadings 32 = .ok (.ifCond .eq 30, 3) := by decide +kernel
theorem dX7_countOfReadings_35 : decode cX7_countOfReadings 35 = .ok (.aload_n 0, 1) := by decide +kernel
theorem dX7_countOfReadings_36 : decode cX7_countOfReadings 36 = .ok (.getfield 43, 3) := by decide +kernel
theorem dX7_countOfReadings_39 : decode cX7_countOfReadings 39 = .ok (.aload_n 0, 1) := by decide +kernel
theorem dX7_countOfReadings_40 : decode cX7_countOfReadings 40 = .ok (.getfield 29, 3) := by decide +kernel
theorem dX7_countOfReadings_43 : decode cX7_countOfReadings 43 = .ok (.iload_n 2, 1) := by decide +kernel
theorem dX7_countOfReadings_44 : decode cX7_countOfReadings 44 = .ok (.aload_n 0, 1) := by decide +kernel
theorem dX7_countOfReadings_45 : decode cX7_countOfReadings 45 = .ok (.getfield 51, 3) := by decide +kernel
theorem dX7_countOfReadings_48 : decode cX7_countOfReadings 48 = .ok (.aload_n 0, 1) := by decide +kernel
theorem dX7_countOfReadings_49 : decode cX7_countOfReadings 49 = .ok (.getfield 39, 3) := by decide +kernel
theorem dX7_countOfReadings_52 : decode cX7_countOfReadings 52 = .ok (.invokevirtual 63, 3) := by decide +kernel
theorem dX7_countOfReadings_55 : decode cX7_countOfReadings 55 = .ok (.ifCond .le 7, 3) := by decide +kernel
theorem dX7_countOfReadings_58 : decode cX7_countOfReadings 58 = .ok (.iconst 1, 1) := by decide +kernel
theorem dX7_countOfReadings_59 : decode cX7_countOfReadings 59 = .ok (.goto 4, 3) := by decide +kernel
theorem dX7_countOfReadings_62 : decode cX7_countOfReadings 62 = .ok (.iconst 0, 1) := by decide +kernel
theorem dX7_countOfReadings_63 : decode cX7_countOfReadings 63 = .ok (.iadd, 1) := by decide +kernel
theorem dX7_countOfReadings_64 : decode cX7_countOfReadings 64 = .ok (.istore_n 3, 1) := by decide +kernel
theorem dX7_countOfReadings_65 : decode cX7_countOfReadings 65 = .ok (.aload_n 0, 1) := by decide +kernel
theorem dX7_countOfReadings_66 : decode cX7_countOfReadings 66 = .ok (.aload_n 1, 1) := by decide +kernel
theorem dX7_countOfReadings_67 : decode cX7_countOfReadings 67 = .ok (.iload_n 2, 1) := by decide +kernel
theorem dX7_countOfReadings_68 : decode cX7_countOfReadings 68 = .ok (.invokevirtual 69, 3) := by decide +kernel
theorem dX7_countOfReadings_71 : decode cX7_countOfReadings 71 = .ok (.istore 4, 2) := by decide +kernel
theorem dX7_countOfReadings_73 : decode cX7_countOfReadings 73 = .ok (.iinc 5 1, 3) := by decide +kernel
theorem dX7_countOfReadings_76 : decode cX7_countOfReadings 76 = .ok (.goto (-63), 3) := by decide +kernel
theorem dX7_countOfReadings_79 : decode cX7_countOfReadings 79 = .ok (.iload_n 3, 1) := by decide +kernel
theorem dX7_countOfReadings_80 : decode cX7_countOfReadings 80 = .ok (.ireturn, 1) := by decide +kernel
theorem dX7_sumOfMeanings_0 : decode cX7_sumOfMeanings 0 = .ok (.lconst 0, 1) := by decide +kernel
theorem dX7_sumOfMeanings_1 : decode cX7_sumOfMeanings 1 = .ok (.lstore_n 3, 1) := by decide +kernel
theorem dX7_sumOfMeanings_2 : decode cX7_sumOfMeanings 2 = .ok (.aload_n 0, 1) := by decide +kernel
theorem dX7_sumOfMeanings_3 : decode cX7_sumOfMeanings 3 = .ok (.aload_n 1, 1) := by decide +kernel
theorem dX7_sumOfMeanings_4 : decode cX7_sumOfMeanings 4 = .ok (.iload_n 2, 1) := by decide +kernel
theorem dX7_sumOfMeanings_5 : decode cX7_sumOfMeanings 5 = .ok (.invokevirtual 55, 3) := by decide +kernel
theorem dX7_sumOfMeanings_8 : decode cX7_sumOfMeanings 8 = .ok (.istore 5, 2) := by decide +kernel
theorem dX7_sumOfMeanings_10 : decode cX7_sumOfMeanings 10 = .ok (.iconst 0, 1) := by decide +kernel
theorem dX7_sumOfMeanings_11 : decode cX7_sumOfMeanings 11 = .ok (.istore 6, 2) := by decide +kernel
theorem dX7_sumOfMeanings_13 : decode cX7_sumOfMeanings 13 = .ok (.iload 5, 2) := by decide +kernel
theorem dX7_sumOfMeanings_15 : decode cX7_sumOfMeanings 15 = .ok (.ifCond .eq 61, 3) := by decide +kernel
theorem dX7_sumOfMeanings_18 : decode cX7_sumOfMeanings 18 = .ok (.iload 6, 2) := by decide +kernel
theorem dX7_sumOfMeanings_20 : decode cX7_sumOfMeanings 20 = .ok (.sipush 729, 3) := by decide +kernel
theorem dX7_sumOfMeanings_23 : decode cX7_sumOfMeanings 23 = .ok (.if_icmp .ge 53, 3) := by decide +kernel
theorem dX7_sumOfMeanings_26 : decode cX7_sumOfMeanings 26 = .ok (.lload_n 3, 1) := by decide +kernel
theorem dX7_sumOfMeanings_27 : decode cX7_sumOfMeanings 27 = .ok (.aload_n 0, 1) := by decide +kernel
theorem dX7_sumOfMeanings_28 : decode cX7_sumOfMeanings 28 = .ok (.iload_n 2, 1) := by decide +kernel
theorem dX7_sumOfMeanings_29 : decode cX7_sumOfMeanings 29 = .ok (.invokevirtual 59, 3) := by decide +kernel
theorem dX7_sumOfMeanings_32 : decode cX7_sumOfMeanings 32 = .ok (.ifCond .eq 27, 3) := by decide +kernel
theorem dX7_sumOfMeanings_35 : decode cX7_sumOfMeanings 35 = .ok (.aload_n 0, 1) := by decide +kernel
theorem dX7_sumOfMeanings_36 : decode cX7_sumOfMeanings 36 = .ok (.getfield 43, 3) := by decide +kernel
theorem dX7_sumOfMeanings_39 : decode cX7_sumOfMeanings 39 = .ok (.aload_n 0, 1) := by decide +kernel
theorem dX7_sumOfMeanings_40 : decode cX7_sumOfMeanings 40 = .ok (.getfield 29, 3) := by decide +kernel
theorem dX7_sumOfMeanings_43 : decode cX7_sumOfMeanings 43 = .ok (.iload_n 2, 1) := by decide +kernel
theorem dX7_sumOfMeanings_44 : decode cX7_sumOfMeanings 44 = .ok (.aload_n 0, 1) := by decide +kernel
theorem dX7_sumOfMeanings_45 : decode cX7_sumOfMeanings 45 = .ok (.getfield 51, 3) := by decide +kernel
theorem dX7_sumOfMeanings_48 : decode cX7_sumOfMeanings 48 = .ok (.aload_n 0, 1) := by decide +kernel
theorem dX7_sumOfMeanings_49 : decode cX7_sumOfMeanings 49 = .ok (.getfield 39, 3) := by decide +kernel
theorem dX7_sumOfMeanings_52 : decode cX7_sumOfMeanings 52 = .ok (.invokevirtual 63, 3) := by decide +kernel
theorem dX7_sumOfMeanings_55 : decode cX7_sumOfMeanings 55 = .ok (.i2l, 1) := by decide +kernel
theorem dX7_sumOfMeanings_56 : decode cX7_sumOfMeanings 56 = .ok (.goto 4, 3) := by decide +kernel
theorem dX7_sumOfMeanings_59 : decode cX7_sumOfMeanings 59 = .ok (.lconst 0, 1) := by decide +kernel
theorem dX7_sumOfMeanings_60 : decode cX7_sumOfMeanings 60 = .ok (.ladd, 1) := by decide +kernel
theorem dX7_sumOfMeanings_61 : decode cX7_sumOfMeanings 61 = .ok (.lstore_n 3, 1) := by decide +kernel
theorem dX7_sumOfMeanings_62 : decode cX7_sumOfMeanings 62 = .ok (.aload_n 0, 1) := by decide +kernel
theorem dX7_sumOfMeanings_63 : decode cX7_sumOfMeanings 63 = .ok (.aload_n 1, 1) := by decide +kernel
theorem dX7_sumOfMeanings_64 : decode cX7_sumOfMeanings 64 = .ok (.iload_n 2, 1) := by decide +kernel
theorem dX7_sumOfMeanings_65 : decode cX7_sumOfMeanings 65 = .ok (.invokevirtual 69, 3) := by decide +kernel
theorem dX7_sumOfMeanings_68 : decode cX7_sumOfMeanings 68 = .ok (.istore 5, 2) := by decide +kernel
theorem dX7_sumOfMeanings_70 : decode cX7_sumOfMeanings 70 = .ok (.iinc 6 1, 3) := by decide +kernel
theorem dX7_sumOfMeanings_73 : decode cX7_sumOfMeanings 73 = .ok (.goto (-60), 3) := by decide +kernel
theorem dX7_sumOfMeanings_76 : decode cX7_sumOfMeanings 76 = .ok (.lload_n 3, 1) := by decide +kernel
theorem dX7_sumOfMeanings_77 : decode cX7_sumOfMeanings 77 = .ok (.ldc2_w 72, 3) := by decide +kernel
theorem dX7_sumOfMeanings_80 : decode cX7_sumOfMeanings 80 = .ok (.lrem, 1) := by decide +kernel
theorem dX7_sumOfMeanings_81 : decode cX7_sumOfMeanings 81 = .ok (.l2i, 1) := by decide +kernel
theorem dX7_sumOfMeanings_82 : decode cX7_sumOfMeanings 82 = .ok (.ireturn, 1) := by decide +kernel
theorem dX7_findReading_0 : decode cX7_findReading 0 = .ok (.aload_n 0, 1) := by decide +kernel
theorem dX7_findReading_1 : decode cX7_findReading 1 = .ok (.aload_n 1, 1) := by decide +kernel
theorem dX7_findReading_2 : decode cX7_findReading 2 = .ok (.iload_n 2, 1) := by decide +kernel
theorem dX7_findReading_3 : decode cX7_findReading 3 = .ok (.invokevirtual 55, 3) := by decide +kernel
theorem dX7_findReading_6 : decode cX7_findReading 6 = .ok (.istore_n 3, 1) := by decide +kernel
theorem dX7_findReading_7 : decode cX7_findReading 7 = .ok (.iconst 0, 1) := by decide +kernel
theorem dX7_findReading_8 : decode cX7_findReading 8 = .ok (.istore 4, 2) := by decide +kernel
theorem dX7_findReading_10 : decode cX7_findReading 10 = .ok (.iload_n 3, 1) := by decide +kernel
theorem dX7_findReading_11 : decode cX7_findReading 11 = .ok (.ifCond .eq 57, 3) := by decide +kernel
theorem dX7_findReading_14 : decode cX7_findReading 14 = .ok (.iload 4, 2) := by decide +kernel
theorem dX7_findReading_16 : decode cX7_findReading 16 = .ok (.sipush 729, 3) := by decide +kernel
theorem dX7_findReading_19 : decode cX7_findReading 19 = .ok (.if_icmp .ge 49, 3) := by decide +kernel
theorem dX7_findReading_22 : decode cX7_findReading 22 = .ok (.aload_n 0, 1) := by decide +kernel
theorem dX7_findReading_23 : decode cX7_findReading 23 = .ok (.iload_n 2, 1) := by decide +kernel
theorem dX7_findReading_24 : decode cX7_findReading 24 = .ok (.invokevirtual 59, 3) := by decide +kernel
theorem dX7_findReading_27 : decode cX7_findReading 27 = .ok (.ifCond .eq 28, 3) := by decide +kernel
theorem dX7_findReading_30 : decode cX7_findReading 30 = .ok (.aload_n 0, 1) := by decide +kernel
theorem dX7_findReading_31 : decode cX7_findReading 31 = .ok (.getfield 43, 3) := by decide +kernel
theorem dX7_findReading_34 : decode cX7_findReading 34 = .ok (.aload_n 0, 1) := by decide +kernel
theorem dX7_findReading_35 : decode cX7_findReading 35 = .ok (.getfield 29, 3) := by decide +kernel
theorem dX7_findReading_38 : decode cX7_findReading 38 = .ok (.iload_n 2, 1) := by decide +kernel
theorem dX7_findReading_39 : decode cX7_findReading 39 = .ok (.aload_n 0, 1) := by decide +kernel
theorem dX7_findReading_40 : decode cX7_findReading 40 = .ok (.getfield 51, 3) := by decide +kernel
theorem dX7_findReading_43 : decode cX7_findReading 43 = .ok (.aload_n 0, 1) := by decide +kernel
theorem dX7_findReading_44 : decode cX7_findReading 44 = .ok (.getfield 39, 3) := by decide +kernel
theorem dX7_findReading_47 : decode cX7_findReading 47 = .ok (.invokevirtual 63, 3) := by decide +kernel
theorem dX7_findReading_50 : decode cX7_findReading 50 = .ok (.ifCond .le 5, 3) := by decide +kernel
theorem dX7_findReading_53 : decode cX7_findReading 53 = .ok (.iconst 1, 1) := by decide +kernel
theorem dX7_findReading_54 : decode cX7_findReading 54 = .ok (.ireturn, 1) := by decide +kernel
theorem dX7_findReading_55 : decode cX7_findReading 55 = .ok (.aload_n 0, 1) := by decide +kernel
theorem dX7_findReading_56 : decode cX7_findReading 56 = .ok (.aload_n 1, 1) := by decide +kernel
theorem dX7_findReading_57 : decode cX7_findReading 57 = .ok (.iload_n 2, 1) := by decide +kernel
theorem dX7_findReading_58 : decode cX7_findReading 58 = .ok (.invokevirtual 69, 3) := by decide +kernel
theorem dX7_findReading_61 : decode cX7_findReading 61 = .ok (.istore_n 3, 1) := by decide +kernel
theorem dX7_findReading_62 : decode cX7_findReading 62 = .ok (.iinc 4 1, 3) := by decide +kernel
theorem dX7_findReading_65 : decode cX7_findReading 65 = .ok (.goto (-55), 3) := by decide +kernel
theorem dX7_findReading_68 : decode cX7_findReading 68 = .ok (.iconst 0, 1) := by decide +kernel
theorem dX7_findReading_69 : decode cX7_findReading 69 = .ok (.ireturn, 1) := by decide +kernel
theorem dX7_kindNumberAt_0 : decode cX7_kindNumberAt 0 = .ok (.iload_n 2, 1) := by decide +kernel
theorem dX7_kindNumberAt_1 : decode cX7_kindNumberAt 1 = .ok (.ifCond .lt 18, 3) := by decide +kernel
theorem dX7_kindNumberAt_4 : decode cX7_kindNumberAt 4 = .ok (.iload_n 2, 1) := by decide +kernel
theorem dX7_kindNumberAt_5 : decode cX7_kindNumberAt 5 = .ok (.aload_n 1, 1) := by decide +kernel
theorem dX7_kindNumberAt_6 : decode cX7_kindNumberAt 6 = .ok (.arraylength, 1) := by decide +kernel
theorem dX7_kindNumberAt_7 : decode cX7_kindNumberAt 7 = .ok (.if_icmp .ge 12, 3) := by decide +kernel
theorem dX7_kindNumberAt_10 : decode cX7_kindNumberAt 10 = .ok (.iload_n 2, 1) := by decide +kernel
theorem dX7_kindNumberAt_11 : decode cX7_kindNumberAt 11 = .ok (.aload_n 0, 1) := by decide +kernel
theorem dX7_kindNumberAt_12 : decode cX7_kindNumberAt 12 = .ok (.getfield 26, 3) := by decide +kernel
theorem dX7_kindNumberAt_15 : decode cX7_kindNumberAt 15 = .ok (.arraylength, 1) := by decide +kernel
theorem dX7_kindNumberAt_16 : decode cX7_kindNumberAt 16 = .ok (.if_icmp .lt 6, 3) := by decide +kernel
theorem dX7_kindNumberAt_19 : decode cX7_kindNumberAt 19 = .ok (.bipush (-9), 2) := by decide +kernel
theorem dX7_kindNumberAt_21 : decode cX7_kindNumberAt 21 = .ok (.ireturn, 1) := by decide +kernel
theorem dX7_kindNumberAt_22 : decode cX7_kindNumberAt 22 = .ok (.aload_n 0, 1) := by decide +kernel
theorem dX7_kindNumberAt_23 : decode cX7_kindNumberAt 23 = .ok (.getfield 26, 3) := by decide +kernel
theorem dX7_kindNumberAt_26 : decode cX7_kindNumberAt 26 = .ok (.iload_n 2, 1) := by decide +kernel
theorem dX7_kindNumberAt_27 : decode cX7_kindNumberAt 27 = .ok (.iaload, 1) := by decide +kernel
theorem dX7_kindNumberAt_28 : decode cX7_kindNumberAt 28 = .ok (.istore_n 3, 1) := by decide +kernel
theorem dX7_kindNumberAt_29 : decode cX7_kindNumberAt 29 = .ok (.iload_n 3, 1) := by decide +kernel
theorem dX7_kindNumberAt_30 : decode cX7_kindNumberAt 30 = .ok (.ifCond .lt 23, 3) := by decide +kernel
theorem dX7_kindNumberAt_33 : decode cX7_kindNumberAt 33 = .ok (.iload_n 3, 1) := by decide +kernel
theorem dX7_kindNumberAt_34 : decode cX7_kindNumberAt 34 = .ok (.iconst 3, 1) := by decide +kernel
theorem dX7_kindNumberAt_35 : decode cX7_kindNumberAt 35 = .ok (.if_icmp .ge 18, 3) := by decide +kernel
theorem dX7_kindNumberAt_38 : decode cX7_kindNumberAt 38 = .ok (.aload_n 0, 1) := by decide +kernel
theorem dX7_kindNumberAt_39 : decode cX7_kindNumberAt 39 = .ok (.getfield 19, 3) := by decide +kernel
theorem dX7_kindNumberAt_42 : decode cX7_kindNumberAt 42 = .ok (.aload_n 1, 1) := by decide +kernel
theorem dX7_kindNumberAt_43 : decode cX7_kindNumberAt 43 = .ok (.iload_n 2, 1) := by decide +kernel
theorem dX7_kindNumberAt_44 : decode cX7_kindNumberAt 44 = .ok (.iaload, 1) := by decide +kernel
theorem dX7_kindNumberAt_45 : decode cX7_kindNumberAt 45 = .ok (.iconst 3, 1) := by decide +kernel
theorem dX7_kindNumberAt_46 : decode cX7_kindNumberAt 46 = .ok (.iand, 1) := by decide +kernel
theorem dX7_kindNumberAt_47 : decode cX7_kindNumberAt 47 = .ok (.aaload, 1) := by decide +kernel
theorem dX7_kindNumberAt_48 : decode cX7_kindNumberAt 48 = .ok (.iload_n 3, 1) := by decide +kernel
theorem dX7_kindNumberAt_49 : decode cX7_kindNumberAt 49 = .ok (.iaload, 1) := by decide +kernel
theorem dX7_kindNumberAt_50 : decode cX7_kindNumberAt 50 = .ok (.goto 5, 3) := by decide +kernel
theorem dX7_kindNumberAt_53 : decode cX7_kindNumberAt 53 = .ok (.bipush (-9), 2) := by decide +kernel
theorem dX7_kindNumberAt_55 : decode cX7_kindNumberAt 55 = .ok (.ireturn, 1) := by decide +kernel
theorem dX7_countOfReadableRows_0 : decode cX7_countOfReadableRows 0 = .ok (.iload_n 1, 1) := by decide +kernel
theorem dX7_countOfReadableRows_1 : decode cX7_countOfReadableRows 1 = .ok (.invokestatic 74, 3) := by decide +kernel
theorem dX7_countOfReadableRows_4 : decode cX7_countOfReadableRows 4 = .ok (.istore_n 2, 1) := by decide +kernel
theorem dX7_countOfReadableRows_5 : decode cX7_countOfReadableRows 5 = .ok (.iconst 0, 1) := by decide +kernel
theorem dX7_countOfReadableRows_6 : decode cX7_countOfReadableRows 6 = .ok (.istore_n 3, 1) := by decide +kernel
theorem dX7_countOfReadableRows_7 : decode cX7_countOfReadableRows 7 = .ok (.iconst 0, 1) := by decide +kernel
theorem dX7_countOfReadableRows_8 : decode cX7_countOfReadableRows 8 = .ok (.istore 4, 2) := by decide +kernel
theorem dX7_countOfReadableRows_10 : decode cX7_countOfReadableRows 10 = .ok (.iload 4, 2) := by decide +kernel
theorem dX7_countOfReadableRows_12 : decode cX7_countOfReadableRows 12 = .ok (.iload_n 2, 1) := by decide +kernel
theorem dX7_countOfReadableRows_13 : decode cX7_countOfReadableRows 13 = .ok (.if_icmp .ge 36, 3) := by decide +kernel
theorem dX7_countOfReadableRows_16 : decode cX7_countOfReadableRows 16 = .ok (.aload_n 0, 1) := by decide +kernel
theorem dX7_countOfReadableRows_17 : decode cX7_countOfReadableRows 17 = .ok (.iload 4, 2) := by decide +kernel
theorem dX7_countOfReadableRows_19 : decode cX7_countOfReadableRows 19 = .ok (.iload_n 1, 1) := by decide +kernel
theorem dX7_countOfReadableRows_20 : decode cX7_countOfReadableRows 20 = .ok (.invokevirtual 78, 3) := by decide +kernel
theorem dX7_countOfReadableRows_23 : decode cX7_countOfReadableRows 23 = .ok (.iload_n 3, 1) := by decide +kernel
theorem dX7_countOfReadableRows_24 : decode cX7_countOfReadableRows 24 = .ok (.aload_n 0, 1) := by decide +kernel
theorem dX7_countOfReadableRows_25 : decode cX7_countOfReadableRows 25 = .ok (.aload_n 0, 1) := by decide +kernel
theorem dX7_countOfReadableRows_26 : decode cX7_countOfReadableRows 26 = .ok (.getfield 36, 3) := by decide +kernel
theorem dX7_countOfReadableRows_29 : decode cX7_countOfReadableRows 29 = .ok (.iload_n 1, 1) := by decide +kernel
theorem dX7_countOfReadableRows_30 : decode cX7_countOfReadableRows 30 = .ok (.invokevirtual 82, 3) := by decide +kernel
theorem dX7_countOfReadableRows_33 : decode cX7_countOfReadableRows 33 = .ok (.ifCond .eq 7, 3) := by decide +kernel
theorem dX7_countOfReadableRows_36 : decode cX7_countOfReadableRows 36 = .ok (.iconst 1, 1) := by decide +kernel
theorem dX7_countOfReadableRows_37 : decode cX7_countOfReadableRows 37 = .ok (.goto 4, 3) := by decide +kernel
theorem dX7_countOfReadableRows_40 : decode cX7_countOfReadableRows 40 = .ok (.iconst 0, 1) := by decide +kernel
theorem dX7_countOfReadableRows_41 : decode cX7_countOfReadableRows 41 = .ok (.iadd, 1) := by decide +kernel
theorem dX7_countOfReadableRows_42 : decode cX7_countOfReadableRows 42 = .ok (.istore_n 3, 1) := by decide +kernel
theorem dX7_countOfReadableRows_43 : decode cX7_countOfReadableRows 43 = .ok (.iinc 4 1, 3) := by decide +kernel
theorem dX7_countOfReadableRows_46 : decode cX7_countOfReadableRows 46 = .ok (.goto (-36), 3) := by decide +kernel
theorem dX7_countOfReadableRows_49 : decode cX7_countOfReadableRows 49 = .ok (.iload_n 3, 1) := by decide +kernel
theorem dX7_countOfReadableRows_50 : decode cX7_countOfReadableRows 50 = .ok (.ireturn, 1) := by decide +kernel
theorem dX7_findNearestRow_0 : decode cX7_findNearestRow 0 = .ok (.iload_n 2, 1) := by decide +kernel
theorem dX7_findNearestRow_1 : decode cX7_findNearestRow 1 = .ok (.invokestatic 74, 3) := by decide +kernel
theorem dX7_findNearestRow_4 : decode cX7_findNearestRow 4 = .ok (.istore_n 3, 1) := by decide +kernel
theorem dX7_findNearestRow_5 : decode cX7_findNearestRow 5 = .ok (.iconst 0, 1) := by decide +kernel
theorem dX7_findNearestRow_6 : decode cX7_findNearestRow 6 = .ok (.istore 4, 2) := by decide +kernel
theorem dX7_findNearestRow_8 : decode cX7_findNearestRow 8 = .ok (.iload 4, 2) := by decide +kernel
theorem dX7_findNearestRow_10 : decode cX7_findNearestRow 10 = .ok (.iload_n 2, 1) := by decide +kernel
theorem dX7_findNearestRow_11 : decode cX7_findNearestRow 11 = .ok (.if_icmp .gt 63, 3) := by decide +kernel
theorem dX7_findNearestRow_14 : decode cX7_findNearestRow 14 = .ok (.iload 4, 2) := by decide +kernel
theorem dX7_findNearestRow_16 : decode cX7_findNearestRow 16 = .ok (.iconst 4, 1) := by decide +kernel
theorem dX7_findNearestRow_17 : decode cX7_findNearestRow 17 = .ok (.if_icmp .gt 57, 3) := by decide +kernel
theorem dX7_findNearestRow_20 : decode cX7_findNearestRow 20 = .ok (.iconst 0, 1) := by decide +kernel
theorem dX7_findNearestRow_21 : decode cX7_findNearestRow 21 = .ok (.istore 5, 2) := by decide +kernel
theorem dX7_findNearestRow_23 : decode cX7_findNearestRow 23 = .ok (.iload 5, 2) := by decide +kernel
theorem dX7_findNearestRow_25 : decode cX7_findNearestRow 25 = .ok (.iload_n 3, 1) := by decide +kernel
theorem dX7_findNearestRow_26 : decode cX7_findNearestRow 26 = .ok (.if_icmp .ge 42, 3) := by decide +kernel
theorem dX7_findNearestRow_29 : decode cX7_findNearestRow 29 = .ok (.aload_n 0, 1) := by decide +kernel
theorem dX7_findNearestRow_30 : decode cX7_findNearestRow 30 = .ok (.iload 5, 2) := by decide +kernel
theorem dX7_findNearestRow_32 : decode cX7_findNearestRow 32 = .ok (.iload_n 2, 1) := by decide +kernel
theorem dX7_findNearestRow_33 : decode cX7_findNearestRow 33 = .ok (.invokevirtual 78, 3) := by decide +kernel
theorem dX7_findNearestRow_36 : decode cX7_findNearestRow 36 = .ok (.aload_n 0, 1) := by decide +kernel
theorem dX7_findNearestRow_37 : decode cX7_findNearestRow 37 = .ok (.aload_n 1, 1) := by decide +kernel
theorem dX7_findNearestRow_38 : decode cX7_findNearestRow 38 = .ok (.iload_n 2, 1) := by decide +kernel
theorem dX7_findNearestRow_39 : decode cX7_findNearestRow 39 = .ok (.invokevirtual 85, 3) := by decide +kernel
theorem dX7_findNearestRow_42 : decode cX7_findNearestRow 42 = .ok (.iload 4, 2) := by decide +kernel
theorem dX7_findNearestRow_44 : decode cX7_findNearestRow 44 = .ok (.if_icmp .ne 18, 3) := by decide +kernel
theorem dX7_findNearestRow_47 : decode cX7_findNearestRow 47 = .ok (.aload_n 0, 1) := by decide +kernel
theorem dX7_findNearestRow_48 : decode cX7_findNearestRow 48 = .ok (.aload_n 0, 1) := by decide +kernel
theorem dX7_findNearestRow_49 : decode cX7_findNearestRow 49 = .ok (.getfield 36, 3) := by decide +kernel
theorem dX7_findNearestRow_52 : decode cX7_findNearestRow 52 = .ok (.iload_n 2, 1) := by decide +kernel
theorem dX7_findNearestRow_53 : decode cX7_findNearestRow 53 = .ok (.invokevirtual 82, 3) := by decide +kernel
theorem dX7_findNearestRow_56 : decode cX7_findNearestRow 56 = .ok (.ifCond .eq 6, 3) := by decide +kernel
theorem dX7_findNearestRow_59 : decode cX7_findNearestRow 59 = .ok (.iload 4, 2) := by decide +kernel
theorem dX7_findNearestRow_61 : decode cX7_findNearestRow 61 = .ok (.ireturn, 1) := by decide +kernel
theorem dX7_findNearestRow_62 : decode cX7_findNearestRow 62 = .ok (.iinc 5 1, 3) := by decide +kernel
theorem dX7_findNearestRow_65 : decode cX7_findNearestRow 65 = .ok (.goto (-42), 3) := by decide +kernel
theorem dX7_findNearestRow_68 : decode cX7_findNearestRow 68 = .ok (.iinc 4 1, 3) := by decide +kernel
theorem dX7_findNearestRow_71 : decode cX7_findNearestRow 71 = .ok (.goto (-63), 3) := by decide +kernel
theorem dX7_findNearestRow_74 : decode cX7_findNearestRow 74 = .ok (.iconst (-1), 1) := by decide +kernel
theorem dX7_findNearestRow_75 : decode cX7_findNearestRow 75 = .ok (.ireturn, 1) := by decide +kernel
theorem dX7_wordOfNearestRow_0 : decode cX7_wordOfNearestRow 0 = .ok (.iload_n 1, 1) := by decide +kernel
theorem dX7_wordOfNearestRow_1 : decode cX7_wordOfNearestRow 1 = .ok (.ifCond .lt 21, 3) := by decide +kernel
theorem dX7_wordOfNearestRow_4 : decode cX7_wordOfNearestRow 4 = .ok (.iload_n 1, 1) := by decide +kernel
theorem dX7_wordOfNearestRow_5 : decode cX7_wordOfNearestRow 5 = .ok (.aload_n 0, 1) := by decide +kernel
theorem dX7_wordOfNearestRow_6 : decode cX7_wordOfNearestRow 6 = .ok (.getfield 36, 3) := by decide +kernel
theorem dX7_wordOfNearestRow_9 : decode cX7_wordOfNearestRow 9 = .ok (.arraylength, 1) := by decide +kernel
theorem dX7_wordOfNearestRow_10 : decode cX7_wordOfNearestRow 10 = .ok (.if_icmp .ge 12, 3) := by decide +kernel
theorem dX7_wordOfNearestRow_13 : decode cX7_wordOfNearestRow 13 = .ok (.aload_n 0, 1) := by decide +kernel
theorem dX7_wordOfNearestRow_14 : decode cX7_wordOfNearestRow 14 = .ok (.getfield 36, 3) := by decide +kernel
theorem dX7_wordOfNearestRow_17 : decode cX7_wordOfNearestRow 17 = .ok (.iload_n 1, 1) := by decide +kernel
theorem dX7_wordOfNearestRow_18 : decode cX7_wordOfNearestRow 18 = .ok (.iaload, 1) := by decide +kernel
theorem dX7_wordOfNearestRow_19 : decode cX7_wordOfNearestRow 19 = .ok (.goto 5, 3) := by decide +kernel
theorem dX7_wordOfNearestRow_22 : decode cX7_wordOfNearestRow 22 = .ok (.bipush (-9), 2) := by decide +kernel
theorem dX7_wordOfNearestRow_24 : decode cX7_wordOfNearestRow 24 = .ok (.ireturn, 1) := by decide +kernel
theorem dX7_chooseFirst_0 : decode cX7_chooseFirst 0 = .ok (.iconst 0, 1) := by decide +kernel
theorem dX7_chooseFirst_1 : decode cX7_chooseFirst 1 = .ok (.istore_n 3, 1) := by decide +kernel
theorem dX7_chooseFirst_2 : decode cX7_chooseFirst 2 = .ok (.iload_n 3, 1) := by decide +kernel
theorem dX7_chooseFirst_3 : decode cX7_chooseFirst 3 = .ok (.iload_n 2, 1) := by decide +kernel
theorem dX7_chooseFirst_4 : decode cX7_chooseFirst 4 = .ok (.if_icmp .ge 46, 3) := by decide +kernel
theorem dX7_chooseFirst_7 : decode cX7_chooseFirst 7 = .ok (.iload_n 3, 1) := by decide +kernel
theorem dX7_chooseFirst_8 : decode cX7_chooseFirst 8 = .ok (.aload_n 1, 1) := by decide +kernel
theorem dX7_chooseFirst_9 : decode cX7_chooseFirst 9 = .ok (.arraylength, 1) := by decide +kernel
theorem dX7_chooseFirst_10 : decode cX7_chooseFirst 10 = .ok (.if_icmp .ge 40, 3) := by decide +kernel
theorem dX7_chooseFirst_13 : decode cX7_chooseFirst 13 = .ok (.iload_n 3, 1) := by decide +kernel
theorem dX7_chooseFirst_14 : decode cX7_chooseFirst 14 = .ok (.aload_n 0, 1) := by decide +kernel
theorem dX7_chooseFirst_15 : decode cX7_chooseFirst 15 = .ok (.getfield 26, 3) := by decide +kernel
theorem dX7_chooseFirst_18 : decode cX7_chooseFirst 18 = .ok (.arraylength, 1) := by decide +kernel
theorem dX7_chooseFirst_19 : decode cX7_chooseFirst 19 = .ok (.if_icmp .ge 31, 3) := by decide +kernel
theorem dX7_chooseFirst_22 : decode cX7_chooseFirst 22 = .ok (.aload_n 0, 1) := by decide +kernel
theorem dX7_chooseFirst_23 : decode cX7_chooseFirst 23 = .ok (.getfield 26, 3) := by decide +kernel
theorem dX7_chooseFirst_26 : decode cX7_chooseFirst 26 = .ok (.iload_n 3, 1) := by decide +kernel
theorem dX7_chooseFirst_27 : decode cX7_chooseFirst 27 = .ok (.iconst 0, 1) := by decide +kernel
theorem dX7_chooseFirst_28 : decode cX7_chooseFirst 28 = .ok (.iastore, 1) := by decide +kernel
theorem dX7_chooseFirst_29 : decode cX7_chooseFirst 29 = .ok (.aload_n 0, 1) := by decide +kernel
theorem dX7_chooseFirst_30 : decode cX7_chooseFirst 30 = .ok (.getfield 22, 3) := by decide +kernel
theorem dX7_chooseFirst_33 : decode cX7_chooseFirst 33 = .ok (.aload_n 1, 1) := by decide +kernel
theorem dX7_chooseFirst_34 : decode cX7_chooseFirst 34 = .ok (.iload_n 3, 1) := by decide +kernel
theorem dX7_chooseFirst_35 : decode cX7_chooseFirst 35 = .ok (.iaload, 1) := by decide +kernel
theorem dX7_chooseFirst_36 : decode cX7_chooseFirst 36 = .ok (.iconst 3, 1) := by decide +kernel
theorem dX7_chooseFirst_37 : decode cX7_chooseFirst 37 = .ok (.iand, 1) := by decide +kernel
theorem dX7_chooseFirst_38 : decode cX7_chooseFirst 38 = .ok (.iaload, 1) := by decide +kernel
theorem dX7_chooseFirst_39 : decode cX7_chooseFirst 39 = .ok (.ifCond .ne 5, 3) := by decide +kernel
theorem dX7_chooseFirst_42 : decode cX7_chooseFirst 42 = .ok (.iconst 0, 1) := by decide +kernel
theorem dX7_chooseFirst_43 : decode cX7_chooseFirst 43 = .ok (.ireturn, 1) := by decide +kernel
theorem dX7_chooseFirst_44 : decode cX7_chooseFirst 44 = .ok (.iinc 3 1, 3) := by decide +kernel
theorem dX7_chooseFirst_47 : decode cX7_chooseFirst 47 = .ok (.goto (-45), 3) := by decide +kernel
theorem dX7_chooseFirst_50 : decode cX7_chooseFirst 50 = .ok (.aload_n 0, 1) := by decide +kernel
theorem dX7_chooseFirst_51 : decode cX7_chooseFirst 51 = .ok (.aload_n 1, 1) := by decide +kernel
theorem dX7_chooseFirst_52 : decode cX7_chooseFirst 52 = .ok (.iload_n 2, 1) := by decide +kernel
theorem dX7_chooseFirst_53 : decode cX7_chooseFirst 53 = .ok (.iconst 0, 1) := by decide +kernel
theorem dX7_chooseFirst_54 : decode cX7_chooseFirst 54 = .ok (.invokevirtual 89, 3) := by decide +kernel
theorem dX7_chooseFirst_57 : decode cX7_chooseFirst 57 = .ok (.iconst 1, 1) := by decide +kernel
theorem dX7_chooseFirst_58 : decode cX7_chooseFirst 58 = .ok (.ireturn, 1) := by decide +kernel
theorem dX7_chooseNext_0 : decode cX7_chooseNext 0 = .ok (.iload_n 2, 1) := by decide +kernel
theorem dX7_chooseNext_1 : decode cX7_chooseNext 1 = .ok (.aload_n 0, 1) := by decide +kernel
theorem dX7_chooseNext_2 : decode cX7_chooseNext 2 = .ok (.getfield 26, 3) := by decide +kernel
theorem dX7_chooseNext_5 : decode cX7_chooseNext 5 = .ok (.arraylength, 1) := by decide +kernel
theorem dX7_chooseNext_6 : decode cX7_chooseNext 6 = .ok (.invokestatic 93, 3) := by decide +kernel
theorem dX7_chooseNext_9 : decode cX7_chooseNext 9 = .ok (.iconst 1, 1) := by decide +kernel
theorem dX7_chooseNext_10 : decode cX7_chooseNext 10 = .ok (.isub, 1) := by decide +kernel
theorem dX7_chooseNext_11 : decode cX7_chooseNext 11 = .ok (.istore_n 3, 1) := by decide +kernel
theorem dX7_chooseNext_12 : decode cX7_chooseNext 12 = .ok (.iload_n 3, 1) := by decide +kernel
theorem dX7_chooseNext_13 : decode cX7_chooseNext 13 = .ok (.ifCond .lt 62, 3) := by decide +kernel
theorem dX7_chooseNext_16 : decode cX7_chooseNext 16 = .ok (.iload_n 3, 1) := by decide +kernel
theorem dX7_chooseNext_17 : decode cX7_chooseNext 17 = .ok (.aload_n 1, 1) := by decide +kernel
theorem dX7_chooseNext_18 : decode cX7_chooseNext 18 = .ok (.arraylength, 1) := by decide +kernel
theorem dX7_chooseNext_19 : decode cX7_chooseNext 19 = .ok (.if_icmp .ge 56, 3) := by decide +kernel
theorem dX7_chooseNext_22 : decode cX7_chooseNext 22 = .ok (.aload_n 0, 1) := by decide +kernel
theorem dX7_chooseNext_23 : decode cX7_chooseNext 23 = .ok (.getfield 26, 3) := by decide +kernel
theorem dX7_chooseNext_26 : decode cX7_chooseNext 26 = .ok (.iload_n 3, 1) := by decide +kernel
theorem dX7_chooseNext_27 : decode cX7_chooseNext 27 = .ok (.iaload, 1) := by decide +kernel
theorem dX7_chooseNext_28 : decode cX7_chooseNext 28 = .ok (.iconst 1, 1) := by decide +kernel
theorem dX7_chooseNext_29 : decode cX7_chooseNext 29 = .ok (.iadd, 1) := by decide +kernel
theorem dX7_chooseNext_30 : decode cX7_chooseNext 30 = .ok (.aload_n 0, 1) := by decide +kernel
theorem dX7_chooseNext_31 : decode cX7_chooseNext 31 = .ok (.getfield 22, 3) := by decide +kernel
theorem dX7_chooseNext_34 : decode cX7_chooseNext 34 = .ok (.aload_n 1, 1) := by decide +kernel
theorem dX7_chooseNext_35 : decode cX7_chooseNext 35 = .ok (.iload_n 3, 1) := by decide +kernel
theorem dX7_chooseNext_36 : decode cX7_chooseNext 36 = .ok (.iaload, 1) := by decide +kernel
theorem dX7_chooseNext_37 : decode cX7_chooseNext 37 = .ok (.iconst 3, 1) := by decide +kernel
theorem dX7_chooseNext_38 : decode cX7_chooseNext 38 = .ok (.iand, 1) := by decide +kernel
theorem dX7_chooseNext_39 : decode cX7_chooseNext 39 = .ok (.iaload, 1) := by decide +kernel
theorem dX7_chooseNext_40 : decode cX7_chooseNext 40 = .ok (.if_icmp .ge 22, 3) := by decide +kernel
theorem dX7_chooseNext_43 : decode cX7_chooseNext 43 = .ok (.aload_n 0, 1) := by decide +kernel
theorem dX7_chooseNext_44 : decode cX7_chooseNext 44 = .ok (.getfield 26, 3) := by decide +kernel
theorem dX7_chooseNext_47 : decode cX7_chooseNext 47 = .ok (.iload_n 3, 1) := by decide +kernel
theorem dX7_chooseNext_48 : decode cX7_chooseNext 48 = .ok (.dup2, 1) := by decide +kernel
theorem dX7_chooseNext_49 : decode cX7_chooseNext 49 = .ok (.iaload, 1) := by decide +kernel
theorem dX7_chooseNext_50 : decode cX7_chooseNext 50 = .ok (.iconst 1, 1) := by decide +kernel
theorem dX7_chooseNext_51 : decode cX7_chooseNext 51 = .ok (.iadd, 1) := by decide +kernel
theorem dX7_chooseNext_52 : decode cX7_chooseNext 52 = .ok (.iastore, 1) := by decide +kernel
theorem dX7_chooseNext_53 : decode cX7_chooseNext 53 = .ok (.aload_n 0, 1) := by decide +kernel
theorem dX7_chooseNext_54 : decode cX7_chooseNext 54 = .ok (.aload_n 1, 1) := by decide +kernel
theorem dX7_chooseNext_55 : decode cX7_chooseNext 55 = .ok (.iload_n 2, 1) := by decide +kernel
theorem dX7_chooseNext_56 : decode cX7_chooseNext 56 = .ok (.iload_n 3, 1) := by decide +kernel
theorem dX7_chooseNext_57 : decode cX7_chooseNext 57 = .ok (.invokevirtual 89, 3) := by decide +kernel
theorem dX7_chooseNext_60 : decode cX7_chooseNext 60 = .ok (.iconst 1, 1) := by decide +kernel
theorem dX7_chooseNext_61 : decode cX7_chooseNext 61 = .ok (.ireturn, 1) := by decide +kernel
theorem dX7_chooseNext_62 : decode cX7_chooseNext 62 = .ok (.aload_n 0, 1) := by decide +kernel
theorem dX7_chooseNext_63 : decode cX7_chooseNext 63 = .ok (.getfield 26, 3) := by decide +kernel
theorem dX7_chooseNext_66 : decode cX7_chooseNext 66 = .ok (.iload_n 3, 1) := by decide +kernel
theorem dX7_chooseNext_67 : decode cX7_chooseNext 67 = .ok (.iconst 0, 1) := by decide +kernel
theorem dX7_chooseNext_68 : decode cX7_chooseNext 68 = .ok (.iastore, 1) := by decide +kernel
theorem dX7_chooseNext_69 : decode cX7_chooseNext 69 = .ok (.iinc 3 (-1), 3) := by decide +kernel
theorem dX7_chooseNext_72 : decode cX7_chooseNext 72 = .ok (.goto (-60), 3) := by decide +kernel
theorem dX7_chooseNext_75 : decode cX7_chooseNext 75 = .ok (.iconst 0, 1) := by decide +kernel
theorem dX7_chooseNext_76 : decode cX7_chooseNext 76 = .ok (.ireturn, 1) := by decide +kernel
theorem dX7_takeFrom_0 : decode cX7_takeFrom 0 = .ok (.iload_n 3, 1) := by decide +kernel
theorem dX7_takeFrom_1 : decode cX7_takeFrom 1 = .ok (.iconst 0, 1) := by decide +kernel
theorem dX7_takeFrom_2 : decode cX7_takeFrom 2 = .ok (.invokestatic 99, 3) := by decide +kernel
theorem dX7_takeFrom_5 : decode cX7_takeFrom 5 = .ok (.istore 4, 2) := by decide +kernel
theorem dX7_takeFrom_7 : decode cX7_takeFrom 7 = .ok (.iload 4, 2) := by decide +kernel
theorem dX7_takeFrom_9 : decode cX7_takeFrom 9 = .ok (.iload_n 2, 1) := by decide +kernel
theorem dX7_takeFrom_10 : decode cX7_takeFrom 10 = .ok (.if_icmp .ge 84, 3) := by decide +kernel
theorem dX7_takeFrom_13 : decode cX7_takeFrom 13 = .ok (.iload 4, 2) := by decide +kernel
theorem dX7_takeFrom_15 : decode cX7_takeFrom 15 = .ok (.aload_n 0, 1) := by decide +kernel
theorem dX7_takeFrom_16 : decode cX7_takeFrom 16 = .ok (.getfield 29, 3) := by decide +kernel
theorem dX7_takeFrom_19 : decode cX7_takeFrom 19 = .ok (.arraylength, 1) := by decide +kernel
theorem dX7_takeFrom_20 : decode cX7_takeFrom 20 = .ok (.if_icmp .ge 74, 3) := by decide +kernel
theorem dX7_takeFrom_23 : decode cX7_takeFrom 23 = .ok (.aload_n 0, 1) := by decide +kernel
theorem dX7_takeFrom_24 : decode cX7_takeFrom 24 = .ok (.aload_n 1, 1) := by decide +kernel
theorem dX7_takeFrom_25 : decode cX7_takeFrom 25 = .ok (.iload 4, 2) := by decide +kernel
theorem dX7_takeFrom_27 : decode cX7_takeFrom 27 = .ok (.invokevirtual 102, 3) := by decide +kernel
theorem dX7_takeFrom_30 : decode cX7_takeFrom 30 = .ok (.istore 5, 2) := by decide +kernel
theorem dX7_takeFrom_32 : decode cX7_takeFrom 32 = .ok (.iload 5, 2) := by decide +kernel
theorem dX7_takeFrom_34 : decode cX7_takeFrom 34 = .ok (.ifCond .lt 27, 3) := by decide +kernel
theorem dX7_takeFrom_37 : decode cX7_takeFrom 37 = .ok (.iload 5, 2) := by decide +kernel
theorem dX7_takeFrom_39 : decode cX7_takeFrom 39 = .ok (.aload_n 0, 1) := by decide +kernel
theorem dX7_takeFrom_40 : decode cX7_takeFrom 40 = .ok (.getfield 11, 3) := by decide +kernel
theorem dX7_takeFrom_43 : decode cX7_takeFrom 43 = .ok (.arraylength, 1) := by decide +kernel
theorem dX7_takeFrom_44 : decode cX7_takeFrom 44 = .ok (.if_icmp .ge 17, 3) := by decide +kernel
theorem dX7_takeFrom_47 : decode cX7_takeFrom 47 = .ok (.aload_n 0, 1) := by decide +kernel
theorem dX7_takeFrom_48 : decode cX7_takeFrom 48 = .ok (.getfield 29, 3) := by decide +kernel
theorem dX7_takeFrom_51 : decode cX7_takeFrom 51 = .ok (.iload 4, 2) := by decide +kernel
theorem dX7_takeFrom_53 : decode cX7_takeFrom 53 = .ok (.aload_n 0, 1) := by decide +kernel
theorem dX7_takeFrom_54 : decode cX7_takeFrom 54 = .ok (.getfield 11, 3) := by decide +kernel
theorem dX7_takeFrom_57 : decode cX7_takeFrom 57 = .ok (.iload 5, 2) := by decide +kernel
theorem dX7_takeFrom_59 : decode cX7_takeFrom 59 = .ok (.aaload, 1) := by decide +kernel
theorem dX7_takeFrom_60 : decode cX7_takeFrom 60 = .ok (.aastore, 1) := by decide +kernel
theorem dX7_takeFrom_61 : decode cX7_takeFrom 61 = .ok (.aload_n 0, 1) := by decide +kernel
theorem dX7_takeFrom_62 : decode cX7_takeFrom 62 = .ok (.getfield 32, 3) := by decide +kernel
theorem dX7_takeFrom_65 : decode cX7_takeFrom 65 = .ok (.iload 4, 2) := by decide +kernel
theorem dX7_takeFrom_67 : decode cX7_takeFrom 67 = .ok (.iconst 1, 1) := by decide +kernel
theorem dX7_takeFrom_68 : decode cX7_takeFrom 68 = .ok (.iadd, 1) := by decide +kernel
theorem dX7_takeFrom_69 : decode cX7_takeFrom 69 = .ok (.aload_n 0, 1) := by decide +kernel
theorem dX7_takeFrom_70 : decode cX7_takeFrom 70 = .ok (.getfield 32, 3) := by decide +kernel
theorem dX7_takeFrom_73 : decode cX7_takeFrom 73 = .ok (.iload 4, 2) := by decide +kernel
theorem dX7_takeFrom_75 : decode cX7_takeFrom 75 = .ok (.laload, 1) := by decide +kernel
theorem dX7_takeFrom_76 : decode cX7_takeFrom 76 = .ok (.aload_n 0, 1) := by decide +kernel
theorem dX7_takeFrom_77 : decode cX7_takeFrom 77 = .ok (.getfield 29, 3) := by decide +kernel
theorem dX7_takeFrom_80 : decode cX7_takeFrom 80 = .ok (.iload 4, 2) := by decide +kernel
theorem dX7_takeFrom_82 : decode cX7_takeFrom 82 = .ok (.aaload, 1) := by decide +kernel
theorem dX7_takeFrom_83 : decode cX7_takeFrom 83 = .ok (.getfield 105, 3) := by decide +kernel
theorem dX7_takeFrom_86 : decode cX7_takeFrom 86 = .ok (.ladd, 1) := by decide +kernel
theorem dX7_takeFrom_87 : decode cX7_takeFrom 87 = .ok (.lastore, 1) := by decide +kernel
theorem dX7_takeFrom_88 : decode cX7_takeFrom 88 = .ok (.iinc 4 1, 3) := by decide +kernel
theorem dX7_takeFrom_91 : decode cX7_takeFrom 91 = .ok (.goto (-84), 3) := by decide +kernel
theorem dX7_takeFrom_94 : decode cX7_takeFrom 94 = .ok (.return_, 1) := by decide +kernel
theorem dX7_isBalanced_0 : decode cX7_isBalanced 0 = .ok (.iload_n 1, 1) := by decide +kernel
theorem dX7_isBalanced_1 : decode cX7_isBalanced 1 = .ok (.ifCond .lt 33, 3) := by decide +kernel
theorem dX7_isBalanced_4 : decode cX7_isBalanced 4 = .ok (.iload_n 1, 1) := by decide +kernel
theorem dX7_isBalanced_5 : decode cX7_isBalanced 5 = .ok (.aload_n 0, 1) := by decide +kernel
theorem dX7_isBalanced_6 : decode cX7_isBalanced 6 = .ok (.getfield 32, 3) := by decide +kernel
theorem dX7_isBalanced_9 : decode cX7_isBalanced 9 = .ok (.arraylength, 1) := by decide +kernel
theorem dX7_isBalanced_10 : decode cX7_isBalanced 10 = .ok (.if_icmp .ge 24, 3) := by decide +kernel
theorem dX7_isBalanced_13 : decode cX7_isBalanced 13 = .ok (.aload_n 0, 1) := by decide +kernel
theorem dX7_isBalanced_14 : decode cX7_isBalanced 14 = .ok (.getfield 32, 3) := by decide +kernel
theorem dX7_isBalanced_17 : decode cX7_isBalanced 17 = .ok (.iload_n 1, 1) := by decide +kernel
theorem dX7_isBalanced_18 : decode cX7_isBalanced 18 = .ok (.laload, 1) := by decide +kernel
theorem dX7_isBalanced_19 : decode cX7_isBalanced 19 = .ok (.aload_n 0, 1) := by decide +kernel
theorem dX7_isBalanced_20 : decode cX7_isBalanced 20 = .ok (.getfield 51, 3) := by decide +kernel
theorem dX7_isBalanced_23 : decode cX7_isBalanced 23 = .ok (.getfield 105, 3) := by decide +kernel
theorem dX7_isBalanced_26 : decode cX7_isBalanced 26 = .ok (.lcmp, 1) := by decide +kernel
theorem dX7_isBalanced_27 : decode cX7_isBalanced 27 = .ok (.ifCond .ne 7, 3) := by decide +kernel
theorem dX7_isBalanced_30 : decode cX7_isBalanced 30 = .ok (.iconst 1, 1) := by decide +kernel
theorem dX7_isBalanced_31 : decode cX7_isBalanced 31 = .ok (.goto 4, 3) := by decide +kernel
theorem dX7_isBalanced_34 : decode cX7_isBalanced 34 = .ok (.iconst 0, 1) := by decide +kernel
theorem dX7_isBalanced_35 : decode cX7_isBalanced 35 = .ok (.ireturn, 1) := by decide +kernel
theorem dX7_countOfRows_0 : decode cX7_countOfRows 0 = .ok (.iconst 1, 1) := by decide +kernel
theorem dX7_countOfRows_1 : decode cX7_countOfRows 1 = .ok (.istore_n 1, 1) := by decide +kernel
theorem dX7_countOfRows_2 : decode cX7_countOfRows 2 = .ok (.iconst 0, 1) := by decide +kernel
theorem dX7_countOfRows_3 : decode cX7_countOfRows 3 = .ok (.istore_n 2, 1) := by decide +kernel
theorem dX7_countOfRows_4 : decode cX7_countOfRows 4 = .ok (.iload_n 2, 1) := by decide +kernel
theorem dX7_countOfRows_5 : decode cX7_countOfRows 5 = .ok (.iload_n 0, 1) := by decide +kernel
theorem dX7_countOfRows_6 : decode cX7_countOfRows 6 = .ok (.if_icmp .ge 18, 3) := by decide +kernel
theorem dX7_countOfRows_9 : decode cX7_countOfRows 9 = .ok (.iload_n 2, 1) := by decide +kernel
theorem dX7_countOfRows_10 : decode cX7_countOfRows 10 = .ok (.iconst 4, 1) := by decide +kernel
theorem dX7_countOfRows_11 : decode cX7_countOfRows 11 = .ok (.if_icmp .ge 13, 3) := by decide +kernel
theorem dX7_countOfRows_14 : decode cX7_countOfRows 14 = .ok (.iload_n 1, 1) := by decide +kernel
theorem dX7_countOfRows_15 : decode cX7_countOfRows 15 = .ok (.iconst 4, 1) := by decide +kernel
theorem dX7_countOfRows_16 : decode cX7_countOfRows 16 = .ok (.imul, 1) := by decide +kernel
theorem dX7_countOfRows_17 : decode cX7_countOfRows 17 = .ok (.istore_n 1, 1) := by decide +kernel
theorem dX7_countOfRows_18 : decode cX7_countOfRows 18 = .ok (.iinc 2 1, 3) := by decide +kernel
theorem dX7_countOfRows_21 : decode cX7_countOfRows 21 = .ok (.goto (-17), 3) := by decide +kernel
theorem dX7_countOfRows_24 : decode cX7_countOfRows 24 = .ok (.iload_n 1, 1) := by decide +kernel
theorem dX7_countOfRows_25 : decode cX7_countOfRows 25 = .ok (.ireturn, 1) := by decide +kernel
theorem dX7_tryRow_0 : decode cX7_tryRow 0 = .ok (.iload_n 1, 1) := by decide +kernel
theorem dX7_tryRow_1 : decode cX7_tryRow 1 = .ok (.istore_n 3, 1) := by decide +kernel
theorem dX7_tryRow_2 : decode cX7_tryRow 2 = .ok (.iload_n 2, 1) := by decide +kernel
theorem dX7_tryRow_3 : decode cX7_tryRow 3 = .ok (.aload_n 0, 1) := by decide +kernel
theorem dX7_tryRow_4 : decode cX7_tryRow 4 = .ok (.getfield 36, 3) := by decide +kernel
theorem dX7_tryRow_7 : decode cX7_tryRow 7 = .ok (.arraylength, 1) := by decide +kernel
theorem dX7_tryRow_8 : decode cX7_tryRow 8 = .ok (.invokestatic 93, 3) := by decide +kernel
theorem dX7_tryRow_11 : decode cX7_tryRow 11 = .ok (.iconst 1, 1) := by decide +kernel
theorem dX7_tryRow_12 : decode cX7_tryRow 12 = .ok (.isub, 1) := by decide +kernel
theorem dX7_tryRow_13 : decode cX7_tryRow 13 = .ok (.istore 4, 2) := by decide +kernel
theorem dX7_tryRow_15 : decode cX7_tryRow 15 = .ok (.iload 4, 2) := by decide +kernel
theorem dX7_tryRow_17 : decode cX7_tryRow 17 = .ok (.ifCond .lt 25, 3) := by decide +kernel
theorem dX7_tryRow_20 : decode cX7_tryRow 20 = .ok (.aload_n 0, 1) := by decide +kernel
theorem dX7_tryRow_21 : decode cX7_tryRow 21 = .ok (.getfield 36, 3) := by decide +kernel
theorem dX7_tryRow_24 : decode cX7_tryRow 24 = .ok (.iload 4, 2) := by decide +kernel
theorem dX7_tryRow_26 : decode cX7_tryRow 26 = .ok (.iload_n 3, 1) := by decide +kernel
theorem dX7_tryRow_27 : decode cX7_tryRow 27 = .ok (.iconst 4, 1) := by decide +kernel
theorem dX7_tryRow_28 : decode cX7_tryRow 28 = .ok (.invokestatic 109, 3) := by decide +kernel
theorem dX7_tryRow_31 : decode cX7_tryRow 31 = .ok (.iastore, 1) := by decide +kernel
theorem dX7_tryRow_32 : decode cX7_tryRow 32 = .ok (.iload_n 3, 1) := by decide +kernel
theorem dX7_tryRow_33 : decode cX7_tryRow 33 = .ok (.iconst 4, 1) := by decide +kernel
theorem dX7_tryRow_34 : decode cX7_tryRow 34 = .ok (.idiv, 1) := by decide +kernel
theorem dX7_tryRow_35 : decode cX7_tryRow 35 = .ok (.istore_n 3, 1) := by decide +kernel
theorem dX7_tryRow_36 : decode cX7_tryRow 36 = .ok (.iinc 4 (-1), 3) := by decide +kernel
theorem dX7_tryRow_39 : decode cX7_tryRow 39 = .ok (.goto (-24), 3) := by decide +kernel
theorem dX7_tryRow_42 : decode cX7_tryRow 42 = .ok (.return_, 1) := by decide +kernel
theorem dX7_changesOf_0 : decode cX7_changesOf 0 = .ok (.iconst 0, 1) := by decide +kernel
theorem dX7_changesOf_1 : decode cX7_changesOf 1 = .ok (.istore_n 3, 1) := by decide +kernel
theorem dX7_changesOf_2 : decode cX7_changesOf 2 = .ok (.iconst 0, 1) := by decide +kernel
theorem dX7_changesOf_3 : decode cX7_changesOf 3 = .ok (.istore 4, 2) := by decide +kernel
theorem dX7_changesOf_5 : decode cX7_changesOf 5 = .ok (.iload 4, 2) := by decide +kernel
theorem dX7_changesOf_7 : decode cX7_changesOf 7 = .ok (.iload_n 2, 1) := by decide +kernel
theorem dX7_changesOf_8 : decode cX7_changesOf 8 = .ok (.if_icmp .ge 48, 3) := by decide +kernel
theorem dX7_changesOf_11 : decode cX7_changesOf 11 = .ok (.iload 4, 2) := by decide +kernel
theorem dX7_changesOf_13 : decode cX7_changesOf 13 = .ok (.aload_n 0, 1) := by decide +kernel
theorem dX7_changesOf_14 : decode cX7_changesOf 14 = .ok (.getfield 36, 3) := by decide +kernel
theorem dX7_changesOf_17 : decode cX7_changesOf 17 = .ok (.arraylength, 1) := by decide +kernel
theorem dX7_changesOf_18 : decode cX7_changesOf 18 = .ok (.if_icmp .ge 38, 3) := by decide +kernel
theorem dX7_changesOf_21 : decode cX7_changesOf 21 = .ok (.iload 4, 2) := by decide +kernel
theorem dX7_changesOf_23 : decode cX7_changesOf 23 = .ok (.aload_n 1, 1) := by decide +kernel
theorem dX7_changesOf_24 : decode cX7_changesOf 24 = .ok (.arraylength, 1) := by decide +kernel
theorem dX7_changesOf_25 : decode cX7_changesOf 25 = .ok (.if_icmp .ge 31, 3) := by decide +kernel
theorem dX7_changesOf_28 : decode cX7_changesOf 28 = .ok (.iload_n 3, 1) := by decide +kernel
theorem dX7_changesOf_29 : decode cX7_changesOf 29 = .ok (.aload_n 0, 1) := by decide +kernel
theorem dX7_changesOf_30 : decode cX7_changesOf 30 = .ok (.getfield 36, 3) := by decide +kernel
theorem dX7_changesOf_33 : decode cX7_changesOf 33 = .ok (.iload 4, 2) := by decide +kernel
theorem dX7_changesOf_35 : decode cX7_changesOf 35 = .ok (.iaload, 1) := by decide +kernel
theorem dX7_changesOf_36 : decode cX7_changesOf 36 = .ok (.aload_n 1, 1) := by decide +kernel
theorem dX7_changesOf_37 : decode cX7_changesOf 37 = .ok (.iload 4, 2) := by decide +kernel
theorem dX7_changesOf_39 : decode cX7_changesOf 39 = .ok (.iaload, 1) := by decide +kernel
theorem dX7_changesOf_40 : decode cX7_changesOf 40 = .ok (.if_icmp .eq 7, 3) := by decide +kernel
theorem dX7_changesOf_43 : decode cX7_changesOf 43 = .ok (.iconst 1, 1) := by decide +kernel
theorem dX7_changesOf_44 : decode cX7_changesOf 44 = .ok (.goto 4, 3) := by decide +kernel
theorem dX7_changesOf_47 : decode cX7_changesOf 47 = .ok (.iconst 0, 1) := by decide +kernel
theorem dX7_changesOf_48 : decode cX7_changesOf 48 = .ok (.iadd, 1) := by decide +kernel
theorem dX7_changesOf_49 : decode cX7_changesOf 49 = .ok (.istore_n 3, 1) := by decide +kernel
theorem dX7_changesOf_50 : decode cX7_changesOf 50 = .ok (.iinc 4 1, 3) := by decide +kernel
theorem dX7_changesOf_53 : decode cX7_changesOf 53 = .ok (.goto (-48), 3) := by decide +kernel
theorem dX7_changesOf_56 : decode cX7_changesOf 56 = .ok (.iload_n 3, 1) := by decide +kernel
theorem dX7_changesOf_57 : decode cX7_changesOf 57 = .ok (.ireturn, 1) := by decide +kernel
