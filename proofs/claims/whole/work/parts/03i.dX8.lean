theorem dX8_init_0 : decode cX8_init 0 = .ok (.aload_n 0, 1) := by decide +kernel
theorem dX8_init_1 : decode cX8_init 1 = .ok (.invokespecial 1, 3) := by decide +kernel
theorem dX8_init_4 : decode cX8_init 4 = .ok (.aload_n 0, 1) := by decide +kernel
theorem dX8_init_5 : decode cX8_init 5 = .ok (.new 7, 3) := by decide +kernel
theorem dX8_init_8 : decode cX8_init 8 = .ok (.dup, 1) := by decide +kernel
theorem dX8_init_9 : decode cX8_init 9 = .ok (.invokespecial 9, 3) := by decide +kernel
theorem dX8_init_12 : decode cX8_init 12 = .ok (.putfield 10, 3) := by decide +kernel
theorem dX8_init_15 : decode cX8_init 15 = .ok (.aload_n 0, 1) := by decide +kernel
theorem dX8_init_16 : decode cX8_init 16 = .ok (.bipush 12, 2) := by decide +kernel
theorem dX8_init_18 : decode cX8_init 18 = .ok (.anewarray 16, 3) := by decide +kernel
theorem dX8_init_21 : decode cX8_init 21 = .ok (.putfield 18, 3) := by decide +kernel
theorem dX8_init_24 : decode cX8_init 24 = .ok (.aload_n 0, 1) := by decide +kernel
theorem dX8_init_25 : decode cX8_init 25 = .ok (.bipush 8, 2) := by decide +kernel
theorem dX8_init_27 : decode cX8_init 27 = .ok (.anewarray 16, 3) := by decide +kernel
theorem dX8_init_30 : decode cX8_init 30 = .ok (.putfield 22, 3) := by decide +kernel
theorem dX8_init_33 : decode cX8_init 33 = .ok (.aload_n 0, 1) := by decide +kernel
theorem dX8_init_34 : decode cX8_init 34 = .ok (.iconst 0, 1) := by decide +kernel
theorem dX8_init_35 : decode cX8_init 35 = .ok (.putfield 25, 3) := by decide +kernel
theorem dX8_init_38 : decode cX8_init 38 = .ok (.aload_n 0, 1) := by decide +kernel
theorem dX8_init_39 : decode cX8_init 39 = .ok (.iconst 4, 1) := by decide +kernel
theorem dX8_init_40 : decode cX8_init 40 = .ok (.newarray .int, 2) := by decide +kernel
theorem dX8_init_42 : decode cX8_init 42 = .ok (.putfield 29, 3) := by decide +kernel
theorem dX8_init_45 : decode cX8_init 45 = .ok (.aload_n 0, 1) := by decide +kernel
theorem dX8_init_46 : decode cX8_init 46 = .ok (.bipush 6, 2) := by decide +kernel
theorem dX8_init_48 : decode cX8_init 48 = .ok (.newarray .int, 2) := by decide +kernel
theorem dX8_init_50 : decode cX8_init 50 = .ok (.putfield 33, 3) := by decide +kernel
theorem dX8_init_53 : decode cX8_init 53 = .ok (.aload_n 0, 1) := by decide +kernel
theorem dX8_init_54 : decode cX8_init 54 = .ok (.iconst 0, 1) := by decide +kernel
theorem dX8_init_55 : decode cX8_init 55 = .ok (.putfield 36, 3) := by decide +kernel
theorem dX8_init_58 : decode cX8_init 58 = .ok (.iconst 0, 1) := by decide +kernel
theorem dX8_init_59 : decode cX8_init 59 = .ok (.invokestatic 39, 3) := by decide +kernel
theorem dX8_init_62 : decode cX8_init 62 = .ok (.astore_n 1, 1) := by decide +kernel
theorem dX8_init_63 : decode cX8_init 63 = .ok (.iconst 0, 1) := by decide +kernel
theorem dX8_init_64 : decode cX8_init 64 = .ok (.istore_n 2, 1) := by decide +kernel
theorem dX8_init_65 : decode cX8_init 65 = .ok (.iload_n 2, 1) := by decide +kernel
theorem dX8_init_66 : decode cX8_init 66 = .ok (.aload_n 0, 1) := by decide +kernel
theorem dX8_init_67 : decode cX8_init 67 = .ok (.getfield 18, 3) := by decide +kernel
theorem dX8_init_70 : decode cX8_init 70 = .ok (.arraylength, 1) := by decide +kernel
theorem dX8_init_71 : decode cX8_init 71 = .ok (.if_icmp .ge 16, 3) := by decide +kernel
theorem dX8_init_74 : decode cX8_init 74 = .ok (.aload_n 0, 1) := by decide +kernel
theorem dX8_init_75 : decode cX8_init 75 = .ok (.getfield 18, 3) := by decide +kernel
theorem dX8_init_78 : decode cX8_init 78 = .ok (.iload_n 2, 1) := by decide +kernel
theorem dX8_init_79 : decode cX8_init 79 = .ok (.aload_n 1, 1) := by decide +kernel
theorem dX8_init_80 : decode cX8_init 80 = .ok (.aastore, 1) := by decide +kernel
theorem dX8_init_81 : decode cX8_init 81 = .ok (.iinc 2 1, 3) := by decide +kernel
theorem dX8_init_84 : decode cX8_init 84 = .ok (.goto (-19), 3) := by decide +kernel
theorem dX8_init_87 : decode cX8_init 87 = .ok (.iconst 0, 1) := by decide +kernel
theorem dX8_init_88 : decode cX8_init 88 = .ok (.istore_n 2, 1) := by decide +kernel
theorem dX8_init_89 : decode cX8_init 89 = .ok (.iload_n 2, 1) := by decide +kernel
theorem dX8_init_90 : decode cX8_init 90 = .ok (.aload_n 0, 1) := by decide +kernel
theorem dX8_init_91 : decode cX8_init 91 = .ok (.getfield 22, 3) := by decide +kernel
theorem dX8_init_94 : decode cX8_init 94 = .ok (.arraylength, 1) := by decide +kernel
theorem dX8_init_95 : decode cX8_init 95 = .ok (.if_icmp .ge 16, 3) := by decide +kernel
theorem dX8_init_98 : decode cX8_init 98 = .ok (.aload_n 0, 1) := by decide +kernel
theorem dX8_init_99 : decode cX8_init 99 = .ok (.getfield 22, 3) := by decide +kernel
theorem dX8_init_102 : decode cX8_init 102 = .ok (.iload_n 2, 1) := by decide +kernel
theorem dX8_init_103 : decode cX8_init 103 = .ok (.aload_n 1, 1) := by decide +kernel
theorem dX8_init_104 : decode cX8_init 104 = .ok (.aastore, 1) := by decide +kernel
theorem dX8_init_105 : decode cX8_init 105 = .ok (.iinc 2 1, 3) := by decide +kernel
theorem dX8_init_108 : decode cX8_init 108 = .ok (.goto (-19), 3) := by decide +kernel
theorem dX8_init_111 : decode cX8_init 111 = .ok (.new 43, 3) := by decide +kernel
theorem dX8_init_114 : decode cX8_init 114 = .ok (.dup, 1) := by decide +kernel
theorem dX8_init_115 : decode cX8_init 115 = .ok (.invokespecial 45, 3) := by decide +kernel
theorem dX8_init_118 : decode cX8_init 118 = .ok (.astore_n 2, 1) := by decide +kernel
theorem dX8_init_119 : decode cX8_init 119 = .ok (.new 46, 3) := by decide +kernel
theorem dX8_init_122 : decode cX8_init 122 = .ok (.dup, 1) := by decide +kernel
theorem dX8_init_123 : decode cX8_init 123 = .ok (.invokespecial 48, 3) := by decide +kernel
theorem dX8_init_126 : decode cX8_init 126 = .ok (.astore_n 3, 1) := by decide +kernel
theorem dX8_init_127 : decode cX8_init 127 = .ok (.aload_n 0, 1) := by decide +kernel
theorem dX8_init_128 : decode cX8_init 128 = .ok (.new 49, 3) := by decide +kernel
theorem dX8_init_131 : decode cX8_init 131 = .ok (.dup, 1) := by decide +kernel
theorem dX8_init_132 : decode cX8_init 132 = .ok (.aload_n 2, 1) := by decide +kernel
theorem dX8_init_133 : decode cX8_init 133 = .ok (.aload_n 3, 1) := by decide +kernel
theorem dX8_init_134 : decode cX8_init 134 = .ok (.invokespecial 51, 3) := by decide +kernel
theorem dX8_init_137 : decode cX8_init 137 = .ok (.putfield 54, 3) := by decide +kernel
theorem dX8_init_140 : decode cX8_init 140 = .ok (.aload_n 0, 1) := by decide +kernel
theorem dX8_init_141 : decode cX8_init 141 = .ok (.new 58, 3) := by decide +kernel
theorem dX8_init_144 : decode cX8_init 144 = .ok (.dup, 1) := by decide +kernel
theorem dX8_init_145 : decode cX8_init 145 = .ok (.aload_n 2, 1) := by decide +kernel
theorem dX8_init_146 : decode cX8_init 146 = .ok (.aload_n 3, 1) := by decide +kernel
theorem dX8_init_147 : decode cX8_init 147 = .ok (.invokespecial 60, 3) := by decide +kernel
theorem dX8_init_150 : decode cX8_init 150 = .ok (.putfield 61, 3) := by decide +kernel
theorem dX8_init_153 : decode cX8_init 153 = .ok (.aload_n 0, 1) := by decide +kernel
theorem dX8_init_154 : decode cX8_init 154 = .ok (.new 65, 3) := by decide +kernel
theorem dX8_init_157 : decode cX8_init 157 = .ok (.dup, 1) := by decide +kernel
theorem dX8_init_158 : decode cX8_init 158 = .ok (.aload_n 0, 1) := by decide +kernel
theorem dX8_init_159 : decode cX8_init 159 = .ok (.getfield 61, 3) := by decide +kernel
theorem dX8_init_162 : decode cX8_init 162 = .ok (.invokespecial 67, 3) := by decide +kernel
theorem dX8_init_165 : decode cX8_init 165 = .ok (.putfield 70, 3) := by decide +kernel
theorem dX8_init_168 : decode cX8_init 168 = .ok (.return_, 1) := by decide +kernel
theorem dX8_type_0 : decode cX8_type 0 = .ok (.iload_n 3, 1) := by decide +kernel
theorem dX8_type_1 : decode cX8_type 1 = .ok (.iconst 1, 1) := by decide +kernel
theorem dX8_type_2 : decode cX8_type 2 = .ok (.if_icmp .lt 9, 3) := by decide +kernel
theorem dX8_type_5 : decode cX8_type 5 = .ok (.iload_n 3, 1) := by decide +kernel
theorem dX8_type_6 : decode cX8_type 6 = .ok (.bipush 8, 2) := by decide +kernel
theorem dX8_type_8 : decode cX8_type 8 = .ok (.if_icmp .le 5, 3) := by decide +kernel
theorem dX8_type_11 : decode cX8_type 11 = .ok (.iconst (-1), 1) := by decide +kernel
theorem dX8_type_12 : decode cX8_type 12 = .ok (.ireturn, 1) := by decide +kernel
theorem dX8_type_13 : decode cX8_type 13 = .ok (.aload_n 0, 1) := by decide +kernel
theorem dX8_type_14 : decode cX8_type 14 = .ok (.getfield 10, 3) := by decide +kernel
theorem dX8_type_17 : decode cX8_type 17 = .ok (.iload_n 3, 1) := by decide +kernel
theorem dX8_type_18 : decode cX8_type 18 = .ok (.invokevirtual 74, 3) := by decide +kernel
theorem dX8_type_21 : decode cX8_type 21 = .ok (.ifCond .ne 6, 3) := by decide +kernel
theorem dX8_type_24 : decode cX8_type 24 = .ok (.bipush (-3), 2) := by decide +kernel
theorem dX8_type_26 : decode cX8_type 26 = .ok (.ireturn, 1) := by decide +kernel
theorem dX8_type_27 : decode cX8_type 27 = .ok (.iload_n 3, 1) := by decide +kernel
theorem dX8_type_28 : decode cX8_type 28 = .ok (.iconst 1, 1) := by decide +kernel
theorem dX8_type_29 : decode cX8_type 29 = .ok (.isub, 1) := by decide +kernel
theorem dX8_type_30 : decode cX8_type 30 = .ok (.istore 4, 2) := by decide +kernel
theorem dX8_type_32 : decode cX8_type 32 = .ok (.iload 4, 2) := by decide +kernel
theorem dX8_type_34 : decode cX8_type 34 = .ok (.ifCond .lt 28, 3) := by decide +kernel
theorem dX8_type_37 : decode cX8_type 37 = .ok (.aload_n 0, 1) := by decide +kernel
theorem dX8_type_38 : decode cX8_type 38 = .ok (.getfield 10, 3) := by decide +kernel
theorem dX8_type_41 : decode cX8_type 41 = .ok (.lload_n 1, 1) := by decide +kernel
theorem dX8_type_42 : decode cX8_type 42 = .ok (.bipush 8, 2) := by decide +kernel
theorem dX8_type_44 : decode cX8_type 44 = .ok (.iload 4, 2) := by decide +kernel
theorem dX8_type_46 : decode cX8_type 46 = .ok (.imul, 1) := by decide +kernel
theorem dX8_type_47 : decode cX8_type 47 = .ok (.lushr, 1) := by decide +kernel
theorem dX8_type_48 : decode cX8_type 48 = .ok (.l2i, 1) := by decide +kernel
theorem dX8_type_49 : decode cX8_type 49 = .ok (.sipush 255, 3) := by decide +kernel
theorem dX8_type_52 : decode cX8_type 52 = .ok (.iand, 1) := by decide +kernel
theorem dX8_type_53 : decode cX8_type 53 = .ok (.invokevirtual 78, 3) := by decide +kernel
theorem dX8_type_56 : decode cX8_type 56 = .ok (.iinc 4 (-1), 3) := by decide +kernel
theorem dX8_type_59 : decode cX8_type 59 = .ok (.goto (-27), 3) := by decide +kernel
theorem dX8_type_62 : decode cX8_type 62 = .ok (.aload_n 0, 1) := by decide +kernel
theorem dX8_type_63 : decode cX8_type 63 = .ok (.getfield 10, 3) := by decide +kernel
theorem dX8_type_66 : decode cX8_type 66 = .ok (.invokevirtual 82, 3) := by decide +kernel
theorem dX8_type_69 : decode cX8_type 69 = .ok (.ireturn, 1) := by decide +kernel
theorem dX8_clear_0 : decode cX8_clear 0 = .ok (.aload_n 0, 1) := by decide +kernel
theorem dX8_clear_1 : decode cX8_clear 1 = .ok (.getfield 10, 3) := by decide +kernel
theorem dX8_clear_4 : decode cX8_clear 4 = .ok (.invokevirtual 86, 3) := by decide +kernel
theorem dX8_clear_7 : decode cX8_clear 7 = .ok (.ireturn, 1) := by decide +kernel
theorem dX8_read_0 : decode cX8_read 0 = .ok (.iload_n 1, 1) := by decide +kernel
theorem dX8_read_1 : decode cX8_read 1 = .ok (.invokestatic 89, 3) := by decide +kernel
theorem dX8_read_4 : decode cX8_read 4 = .ok (.ifCond .ne 5, 3) := by decide +kernel
theorem dX8_read_7 : decode cX8_read 7 = .ok (.iconst (-1), 1) := by decide +kernel
theorem dX8_read_8 : decode cX8_read 8 = .ok (.ireturn, 1) := by decide +kernel
theorem dX8_read_9 : decode cX8_read 9 = .ok (.aload_n 0, 1) := by decide +kernel
theorem dX8_read_10 : decode cX8_read 10 = .ok (.getfield 10, 3) := by decide +kernel
theorem dX8_read_13 : decode cX8_read 13 = .ok (.invokevirtual 92, 3) := by decide +kernel
theorem dX8_read_16 : decode cX8_read 16 = .ok (.istore_n 2, 1) := by decide +kernel
theorem dX8_read_17 : decode cX8_read 17 = .ok (.iload_n 2, 1) := by decide +kernel
theorem dX8_read_18 : decode cX8_read 18 = .ok (.ifCond .lt 8, 3) := by decide +kernel
theorem dX8_read_21 : decode cX8_read 21 = .ok (.bipush (-10), 2) := by decide +kernel
theorem dX8_read_23 : decode cX8_read 23 = .ok (.iload_n 2, 1) := by decide +kernel
theorem dX8_read_24 : decode cX8_read 24 = .ok (.isub, 1) := by decide +kernel
theorem dX8_read_25 : decode cX8_read 25 = .ok (.ireturn, 1) := by decide +kernel
theorem dX8_read_26 : decode cX8_read 26 = .ok (.aload_n 0, 1) := by decide +kernel
theorem dX8_read_27 : decode cX8_read 27 = .ok (.getfield 18, 3) := by decide +kernel
theorem dX8_read_30 : decode cX8_read 30 = .ok (.iload_n 1, 1) := by decide +kernel
theorem dX8_read_31 : decode cX8_read 31 = .ok (.aload_n 0, 1) := by decide +kernel
theorem dX8_read_32 : decode cX8_read 32 = .ok (.getfield 10, 3) := by decide +kernel
theorem dX8_read_35 : decode cX8_read 35 = .ok (.invokevirtual 95, 3) := by decide +kernel
theorem dX8_read_38 : decode cX8_read 38 = .ok (.aastore, 1) := by decide +kernel
theorem dX8_read_39 : decode cX8_read 39 = .ok (.aload_n 0, 1) := by decide +kernel
theorem dX8_read_40 : decode cX8_read 40 = .ok (.getfield 10, 3) := by decide +kernel
theorem dX8_read_43 : decode cX8_read 43 = .ok (.invokevirtual 86, 3) := by decide +kernel
theorem dX8_read_46 : decode cX8_read 46 = .ok (.pop, 1) := by decide +kernel
theorem dX8_read_47 : decode cX8_read 47 = .ok (.aload_n 0, 1) := by decide +kernel
theorem dX8_read_48 : decode cX8_read 48 = .ok (.getfield 18, 3) := by decide +kernel
theorem dX8_read_51 : decode cX8_read 51 = .ok (.iload_n 1, 1) := by decide +kernel
theorem dX8_read_52 : decode cX8_read 52 = .ok (.aaload, 1) := by decide +kernel
theorem dX8_read_53 : decode cX8_read 53 = .ok (.getfield 99, 3) := by decide +kernel
theorem dX8_read_56 : decode cX8_read 56 = .ok (.ireturn, 1) := by decide +kernel
theorem dX8_about_0 : decode cX8_about 0 = .ok (.iload_n 1, 1) := by decide +kernel
theorem dX8_about_1 : decode cX8_about 1 = .ok (.invokestatic 89, 3) := by decide +kernel
theorem dX8_about_4 : decode cX8_about 4 = .ok (.ifCond .ne 5, 3) := by decide +kernel
theorem dX8_about_7 : decode cX8_about 7 = .ok (.iconst (-1), 1) := by decide +kernel
theorem dX8_about_8 : decode cX8_about 8 = .ok (.ireturn, 1) := by decide +kernel
theorem dX8_about_9 : decode cX8_about 9 = .ok (.iload_n 2, 1) := by decide +kernel
theorem dX8_about_10 : decode cX8_about 10 = .ok (.tableswitch 70 0 3 #[30, 40, 50, 60], 30) := by decide +kernel
theorem dX8_about_40 : decode cX8_about 40 = .ok (.aload_n 0, 1) := by decide +kernel
theorem dX8_about_41 : decode cX8_about 41 = .ok (.getfield 18, 3) := by decide +kernel
theorem dX8_about_44 : decode cX8_about 44 = .ok (.iload_n 1, 1) := by decide +kernel
theorem dX8_about_45 : decode cX8_about 45 = .ok (.aaload, 1) := by decide +kernel
theorem dX8_about_46 : decode cX8_about 46 = .ok (.getfield 99, 3) := by decide +kernel
theorem dX8_about_49 : decode cX8_about 49 = .ok (.ireturn, 1) := by decide +kernel
theorem dX8_about_50 : decode cX8_about 50 = .ok (.aload_n 0, 1) := by decide +kernel
theorem dX8_about_51 : decode cX8_about 51 = .ok (.getfield 18, 3) := by decide +kernel
theorem dX8_about_54 : decode cX8_about 54 = .ok (.iload_n 1, 1) := by decide +kernel
theorem dX8_about_55 : decode cX8_about 55 = .ok (.aaload, 1) := by decide +kernel
theorem dX8_about_56 : decode cX8_about 56 = .ok (.getfield 102, 3) := by decide +kernel
theorem dX8_about_59 : decode cX8_about 59 = .ok (.ireturn, 1) := by decide +kernel
theorem dX8_about_60 : decode cX8_about 60 = .ok (.aload_n 0, 1) := by decide +kernel
theorem dX8_about_61 : decode cX8_about 61 = .ok (.getfield 18, 3) := by decide +kernel
theorem dX8_about_64 : decode cX8_about 64 = .ok (.iload_n 1, 1) := by decide +kernel
theorem dX8_about_65 : decode cX8_about 65 = .ok (.aaload, 1) := by decide +kernel
theorem dX8_about_66 : decode cX8_about 66 = .ok (.getfield 105, 3) := by decide +kernel
theorem dX8_about_69 : decode cX8_about 69 = .ok (.ireturn, 1) := by decide +kernel
theorem dX8_about_70 : decode cX8_about 70 = .ok (.aload_n 0, 1) := by decide +kernel
theorem dX8_about_71 : decode cX8_about 71 = .ok (.getfield 18, 3) := by decide +kernel
theorem dX8_about_74 : decode cX8_about 74 = .ok (.iload_n 1, 1) := by decide +kernel
theorem dX8_about_75 : decode cX8_about 75 = .ok (.aaload, 1) := by decide +kernel
theorem dX8_about_76 : decode cX8_about 76 = .ok (.invokevirtual 108, 3) := by decide +kernel
theorem dX8_about_79 : decode cX8_about 79 = .ok (.ireturn, 1) := by decide +kernel
theorem dX8_about_80 : decode cX8_about 80 = .ok (.iconst (-1), 1) := by decide +kernel
theorem dX8_about_81 : decode cX8_about 81 = .ok (.ireturn, 1) := by decide +kernel
theorem dX8_balance_0 : decode cX8_balance 0 = .ok (.iload_n 1, 1) := by decide +kernel
theorem dX8_balance_1 : decode cX8_balance 1 = .ok (.invokestatic 89, 3) := by decide +kernel
theorem dX8_balance_4 : decode cX8_balance 4 = .ok (.ifCond .eq 13, 3) := by decide +kernel
theorem dX8_balance_7 : decode cX8_balance 7 = .ok (.iload_n 2, 1) := by decide +kernel
theorem dX8_balance_8 : decode cX8_balance 8 = .ok (.ifCond .lt 9, 3) := by decide +kernel
theorem dX8_balance_11 : decode cX8_balance 11 = .ok (.iload_n 2, 1) := by decide +kernel
theorem dX8_balance_12 : decode cX8_balance 12 = .ok (.bipush 8, 2) := by decide +kernel
theorem dX8_balance_14 : decode cX8_balance 14 = .ok (.if_icmp .lt 6, 3) := by decide +kernel
theorem dX8_balance_17 : decode cX8_balance 17 = .ok (.ldc 111, 2) := by decide +kernel
theorem dX8_balance_19 : decode cX8_balance 19 = .ok (.ireturn, 1) := by decide +kernel
theorem dX8_balance_20 : decode cX8_balance 20 = .ok (.aload_n 0, 1) := by decide +kernel
theorem dX8_balance_21 : decode cX8_balance 21 = .ok (.getfield 18, 3) := by decide +kernel
theorem dX8_balance_24 : decode cX8_balance 24 = .ok (.iload_n 1, 1) := by decide +kernel
theorem dX8_balance_25 : decode cX8_balance 25 = .ok (.aaload, 1) := by decide +kernel
theorem dX8_balance_26 : decode cX8_balance 26 = .ok (.iload_n 2, 1) := by decide +kernel
theorem dX8_balance_27 : decode cX8_balance 27 = .ok (.invokevirtual 112, 3) := by decide +kernel
theorem dX8_balance_30 : decode cX8_balance 30 = .ok (.ireturn, 1) := by decide +kernel
theorem dX8_letter_0 : decode cX8_letter 0 = .ok (.iload_n 1, 1) := by decide +kernel
theorem dX8_letter_1 : decode cX8_letter 1 = .ok (.invokestatic 89, 3) := by decide +kernel
theorem dX8_letter_4 : decode cX8_letter 4 = .ok (.ifCond .eq 20, 3) := by decide +kernel
theorem dX8_letter_7 : decode cX8_letter 7 = .ok (.iload_n 2, 1) := by decide +kernel
theorem dX8_letter_8 : decode cX8_letter 8 = .ok (.ifCond .lt 16, 3) := by decide +kernel
theorem dX8_letter_11 : decode cX8_letter 11 = .ok (.iload_n 2, 1) := by decide +kernel
theorem dX8_letter_12 : decode cX8_letter 12 = .ok (.aload_n 0, 1) := by decide +kernel
theorem dX8_letter_13 : decode cX8_letter 13 = .ok (.getfield 18, 3) := by decide +kernel
theorem dX8_letter_16 : decode cX8_letter 16 = .ok (.iload_n 1, 1) := by decide +kernel
theorem dX8_letter_17 : decode cX8_letter 17 = .ok (.aaload, 1) := by decide +kernel
theorem dX8_letter_18 : decode cX8_letter 18 = .ok (.invokevirtual 108, 3) := by decide +kernel
theorem dX8_letter_21 : decode cX8_letter 21 = .ok (.if_icmp .lt 6, 3) := by decide +kernel
theorem dX8_letter_24 : decode cX8_letter 24 = .ok (.ldc 111, 2) := by decide +kernel
theorem dX8_letter_26 : decode cX8_letter 26 = .ok (.ireturn, 1) := by decide +kernel
theorem dX8_letter_27 : decode cX8_letter 27 = .ok (.aload_n 0, 1) := by decide +kernel
theorem dX8_letter_28 : decode cX8_letter 28 = .ok (.getfield 18, 3) := by decide +kernel
theorem dX8_letter_31 : decode cX8_letter 31 = .ok (.iload_n 1, 1) := by decide +kernel
theorem dX8_letter_32 : decode cX8_letter 32 = .ok (.aaload, 1) := by decide +kernel
theorem dX8_letter_33 : decode cX8_letter 33 = .ok (.iload_n 2, 1) := by decide +kernel
theorem dX8_letter_34 : decode cX8_letter 34 = .ok (.invokevirtual 116, 3) := by decide +kernel
theorem dX8_letter_37 : decode cX8_letter 37 = .ok (.ireturn, 1) := by decide +kernel
theorem dX8_alike_0 : decode cX8_alike 0 = .ok (.iload_n 1, 1) := by decide +kernel
theorem dX8_alike_1 : decode cX8_alike 1 = .ok (.invokestatic 89, 3) := by decide +kernel
theorem dX8_alike_4 : decode cX8_alike 4 = .ok (.ifCond .eq 19, 3) := by decide +kernel
theorem dX8_alike_7 : decode cX8_alike 7 = .ok (.iload_n 2, 1) := by decide +kernel
theorem dX8_alike_8 : decode cX8_alike 8 = .ok (.invokestatic 89, 3) := by decide +kernel
theorem dX8_alike_11 : decode cX8_alike 11 = .ok (.ifCond .eq 12, 3) := by decide +kernel
theorem dX8_alike_14 : decode cX8_alike 14 = .ok (.iload_n 3, 1) := by decide +kernel
theorem dX8_alike_15 : decode cX8_alike 15 = .ok (.ifCond .lt 8, 3) := by decide +kernel
theorem dX8_alike_18 : decode cX8_alike 18 = .ok (.iload_n 3, 1) := by decide +kernel
theorem dX8_alike_19 : decode cX8_alike 19 = .ok (.iconst 1, 1) := by decide +kernel
theorem dX8_alike_20 : decode cX8_alike 20 = .ok (.if_icmp .le 5, 3) := by decide +kernel
theorem dX8_alike_23 : decode cX8_alike 23 = .ok (.iconst (-1), 1) := by decide +kernel
theorem dX8_alike_24 : decode cX8_alike 24 = .ok (.ireturn, 1) := by decide +kernel
theorem dX8_alike_25 : decode cX8_alike 25 = .ok (.iload_n 3, 1) := by decide +kernel
theorem dX8_alike_26 : decode cX8_alike 26 = .ok (.iconst 1, 1) := by decide +kernel
theorem dX8_alike_27 : decode cX8_alike 27 = .ok (.if_icmp .ne 21, 3) := by decide +kernel
theorem dX8_alike_30 : decode cX8_alike 30 = .ok (.aload_n 0, 1) := by decide +kernel
theorem dX8_alike_31 : decode cX8_alike 31 = .ok (.getfield 18, 3) := by decide +kernel
theorem dX8_alike_34 : decode cX8_alike 34 = .ok (.iload_n 1, 1) := by decide +kernel
theorem dX8_alike_35 : decode cX8_alike 35 = .ok (.aaload, 1) := by decide +kernel
theorem dX8_alike_36 : decode cX8_alike 36 = .ok (.aload_n 0, 1) := by decide +kernel
theorem dX8_alike_37 : decode cX8_alike 37 = .ok (.getfield 18, 3) := by decide +kernel
theorem dX8_alike_40 : decode cX8_alike 40 = .ok (.iload_n 2, 1) := by decide +kernel
theorem dX8_alike_41 : decode cX8_alike 41 = .ok (.aaload, 1) := by decide +kernel
theorem dX8_alike_42 : decode cX8_alike 42 = .ok (.invokevirtual 119, 3) := by decide +kernel
theorem dX8_alike_45 : decode cX8_alike 45 = .ok (.goto 18, 3) := by decide +kernel
theorem dX8_alike_48 : decode cX8_alike 48 = .ok (.aload_n 0, 1) := by decide +kernel
theorem dX8_alike_49 : decode cX8_alike 49 = .ok (.getfield 18, 3) := by decide +kernel
theorem dX8_alike_52 : decode cX8_alike 52 = .ok (.iload_n 1, 1) := by decide +kernel
theorem dX8_alike_53 : decode cX8_alike 53 = .ok (.aaload, 1) := by decide +kernel
theorem dX8_alike_54 : decode cX8_alike 54 = .ok (.aload_n 0, 1) := by decide +kernel
theorem dX8_alike_55 : decode cX8_alike 55 = .ok (.getfield 18, 3) := by decide +kernel
theorem dX8_alike_58 : decode cX8_alike 58 = .ok (.iload_n 2, 1) := by decide +kernel
theorem dX8_alike_59 : decode cX8_alike 59 = .ok (.aaload, 1) := by decide +kernel
theorem dX8_alike_60 : decode cX8_alike 60 = .ok (.invokevirtual 123, 3) := by decide +kernel
theorem dX8_alike_63 : decode cX8_alike 63 = .ok (.istore 4, 2) := by decide +kernel
theorem dX8_alike_65 : decode cX8_alike 65 = .ok (.iload 4, 2) := by decide +kernel
theorem dX8_alike_67 : decode cX8_alike 67 = .ok (.ifCond .eq 7, 3) := by decide +kernel
theorem dX8_alike_70 : decode cX8_alike 70 = .ok (.iconst 1, 1) := by decide +kernel
theorem dX8_alike_71 : decode cX8_alike 71 = .ok (.goto 4, 3) := by decide +kernel
theorem dX8_alike_74 : decode cX8_alike 74 = .ok (.iconst 0, 1) := by decide +kernel
theorem dX8_alike_75 : decode cX8_alike 75 = .ok (.ireturn, 1) := by decide +kernel
theorem dX8_add_0 : decode cX8_add 0 = .ok (.iload_n 1, 1) := by decide +kernel
theorem dX8_add_1 : decode cX8_add 1 = .ok (.invokestatic 89, 3) := by decide +kernel
theorem dX8_add_4 : decode cX8_add 4 = .ok (.ifCond .ne 5, 3) := by decide +kernel
theorem dX8_add_7 : decode cX8_add 7 = .ok (.iconst (-1), 1) := by decide +kernel
theorem dX8_add_8 : decode cX8_add 8 = .ok (.ireturn, 1) := by decide +kernel
theorem dX8_add_9 : decode cX8_add 9 = .ok (.aload_n 0, 1) := by decide +kernel
theorem dX8_add_10 : decode cX8_add 10 = .ok (.getfield 25, 3) := by decide +kernel
theorem dX8_add_13 : decode cX8_add 13 = .ok (.ifCond .lt 15, 3) := by decide +kernel
theorem dX8_add_16 : decode cX8_add 16 = .ok (.aload_n 0, 1) := by decide +kernel
theorem dX8_add_17 : decode cX8_add 17 = .ok (.getfield 25, 3) := by decide +kernel
theorem dX8_add_20 : decode cX8_add 20 = .ok (.aload_n 0, 1) := by decide +kernel
theorem dX8_add_21 : decode cX8_add 21 = .ok (.getfield 22, 3) := by decide +kernel
theorem dX8_add_24 : decode cX8_add 24 = .ok (.arraylength, 1) := by decide +kernel
theorem dX8_add_25 : decode cX8_add 25 = .ok (.if_icmp .lt 6, 3) := by decide +kernel
theorem dX8_add_28 : decode cX8_add 28 = .ok (.bipush (-3), 2) := by decide +kernel
theorem dX8_add_30 : decode cX8_add 30 = .ok (.ireturn, 1) := by decide +kernel
theorem dX8_add_31 : decode cX8_add 31 = .ok (.aload_n 0, 1) := by decide +kernel
theorem dX8_add_32 : decode cX8_add 32 = .ok (.getfield 22, 3) := by decide +kernel
theorem dX8_add_35 : decode cX8_add 35 = .ok (.aload_n 0, 1) := by decide +kernel
theorem dX8_add_36 : decode cX8_add 36 = .ok (.getfield 25, 3) := by decide +kernel
theorem dX8_add_39 : decode cX8_add 39 = .ok (.aload_n 0, 1) := by decide +kernel
theorem dX8_add_40 : decode cX8_add 40 = .ok (.getfield 18, 3) := by decide +kernel
theorem dX8_add_43 : decode cX8_add 43 = .ok (.iload_n 1, 1) := by decide +kernel
theorem dX8_add_44 : decode cX8_add 44 = .ok (.aaload, 1) := by decide +kernel
theorem dX8_add_45 : decode cX8_add 45 = .ok (.aastore, 1) := by decide +kernel
theorem dX8_add_46 : decode cX8_add 46 = .ok (.aload_n 0, 1) := by decide +kernel
theorem dX8_add_47 : decode cX8_add 47 = .ok (.dup, 1) := by decide +kernel
theorem dX8_add_48 : decode cX8_add 48 = .ok (.getfield 25, 3) := by decide +kernel
theorem dX8_add_51 : decode cX8_add 51 = .ok (.iconst 1, 1) := by decide +kernel
theorem dX8_add_52 : decode cX8_add 52 = .ok (.iadd, 1) := by decide +kernel
theorem dX8_add_53 : decode cX8_add 53 = .ok (.putfield 25, 3) := by decide +kernel
theorem dX8_add_56 : decode cX8_add 56 = .ok (.aload_n 0, 1) := by decide +kernel
theorem dX8_add_57 : decode cX8_add 57 = .ok (.getfield 25, 3) := by decide +kernel
theorem dX8_add_60 : decode cX8_add 60 = .ok (.ireturn, 1) := by decide +kernel
theorem dX8_wipe_0 : decode cX8_wipe 0 = .ok (.aload_n 0, 1) := by decide +kernel
theorem dX8_wipe_1 : decode cX8_wipe 1 = .ok (.getfield 25, 3) := by decide +kernel
theorem dX8_wipe_4 : decode cX8_wipe 4 = .ok (.istore_n 1, 1) := by decide +kernel
theorem dX8_wipe_5 : decode cX8_wipe 5 = .ok (.aload_n 0, 1) := by decide +kernel
theorem dX8_wipe_6 : decode cX8_wipe 6 = .ok (.iconst 0, 1) := by decide +kernel
theorem dX8_wipe_7 : decode cX8_wipe 7 = .ok (.putfield 25, 3) := by decide +kernel
theorem dX8_wipe_10 : decode cX8_wipe 10 = .ok (.iload_n 1, 1) := by decide +kernel
theorem dX8_wipe_11 : decode cX8_wipe 11 = .ok (.ireturn, 1) := by decide +kernel
theorem dX8_is_0 : decode cX8_is 0 = .ok (.iload_n 1, 1) := by decide +kernel
theorem dX8_is_1 : decode cX8_is 1 = .ok (.invokestatic 89, 3) := by decide +kernel
theorem dX8_is_4 : decode cX8_is 4 = .ok (.ifCond .eq 10, 3) := by decide +kernel
theorem dX8_is_7 : decode cX8_is 7 = .ok (.iload_n 2, 1) := by decide +kernel
theorem dX8_is_8 : decode cX8_is 8 = .ok (.invokestatic 126, 3) := by decide +kernel
theorem dX8_is_11 : decode cX8_is 11 = .ok (.ifCond .ne 5, 3) := by decide +kernel
theorem dX8_is_14 : decode cX8_is 14 = .ok (.iconst (-1), 1) := by decide +kernel
theorem dX8_is_15 : decode cX8_is 15 = .ok (.ireturn, 1) := by decide +kernel
theorem dX8_is_16 : decode cX8_is 16 = .ok (.aload_n 0, 1) := by decide +kernel
theorem dX8_is_17 : decode cX8_is 17 = .ok (.iload_n 1, 1) := by decide +kernel
theorem dX8_is_18 : decode cX8_is 18 = .ok (.invokevirtual 129, 3) := by decide +kernel
theorem dX8_is_21 : decode cX8_is 21 = .ok (.ifCond .ne 6, 3) := by decide +kernel
theorem dX8_is_24 : decode cX8_is 24 = .ok (.bipush (-2), 2) := by decide +kernel
theorem dX8_is_26 : decode cX8_is 26 = .ok (.ireturn, 1) := by decide +kernel
theorem dX8_is_27 : decode cX8_is 27 = .ok (.aload_n 0, 1) := by decide +kernel
theorem dX8_is_28 : decode cX8_is 28 = .ok (.getfield 54, 3) := by decide +kernel
theorem dX8_is_31 : decode cX8_is 31 = .ok (.aload_n 0, 1) := by decide +kernel
theorem dX8_is_32 : decode cX8_is 32 = .ok (.getfield 22, 3) := by decide +kernel
theorem dX8_is_35 : decode cX8_is 35 = .ok (.aload_n 0, 1) := by decide +kernel
theorem dX8_is_36 : decode cX8_is 36 = .ok (.getfield 25, 3) := by decide +kernel
theorem dX8_is_39 : decode cX8_is 39 = .ok (.aload_n 0, 1) := by decide +kernel
theorem dX8_is_40 : decode cX8_is 40 = .ok (.getfield 18, 3) := by decide +kernel
theorem dX8_is_43 : decode cX8_is 43 = .ok (.iload_n 1, 1) := by decide +kernel
theorem dX8_is_44 : decode cX8_is 44 = .ok (.aaload, 1) := by decide +kernel
theorem dX8_is_45 : decode cX8_is 45 = .ok (.iload_n 2, 1) := by decide +kernel
theorem dX8_is_46 : decode cX8_is 46 = .ok (.ifCond .ne 7, 3) := by decide +kernel
theorem dX8_is_49 : decode cX8_is 49 = .ok (.iconst 1, 1) := by decide +kernel
theorem dX8_is_50 : decode cX8_is 50 = .ok (.goto 4, 3) := by decide +kernel
theorem dX8_is_53 : decode cX8_is 53 = .ok (.iconst 0, 1) := by decide +kernel
theorem dX8_is_54 : decode cX8_is 54 = .ok (.invokevirtual 132, 3) := by decide +kernel
theorem dX8_is_57 : decode cX8_is 57 = .ok (.ifCond .eq 7, 3) := by decide +kernel
theorem dX8_is_60 : decode cX8_is 60 = .ok (.iconst 1, 1) := by decide +kernel
theorem dX8_is_61 : decode cX8_is 61 = .ok (.goto 4, 3) := by decide +kernel
theorem dX8_is_64 : decode cX8_is 64 = .ok (.iconst 0, 1) := by decide +kernel
theorem dX8_is_65 : decode cX8_is 65 = .ok (.ireturn, 1) := by decide +kernel
theorem dX8_proofs_0 : decode cX8_proofs 0 = .ok (.iload_n 1, 1) := by decide +kernel
theorem dX8_proofs_1 : decode cX8_proofs 1 = .ok (.invokestatic 89, 3) := by decide +kernel
theorem dX8_proofs_4 : decode cX8_proofs 4 = .ok (.ifCond .eq 10, 3) := by decide +kernel
theorem dX8_proofs_7 : decode cX8_proofs 7 = .ok (.iload_n 2, 1) := by decide +kernel
theorem dX8_proofs_8 : decode cX8_proofs 8 = .ok (.invokestatic 126, 3) := by decide +kernel
theorem dX8_proofs_11 : decode cX8_proofs 11 = .ok (.ifCond .ne 5, 3) := by decide +kernel
theorem dX8_proofs_14 : decode cX8_proofs 14 = .ok (.iconst (-1), 1) := by decide +kernel
theorem dX8_proofs_15 : decode cX8_proofs 15 = .ok (.ireturn, 1) := by decide +kernel
theorem dX8_proofs_16 : decode cX8_proofs 16 = .ok (.aload_n 0, 1) := by decide +kernel
theorem dX8_proofs_17 : decode cX8_proofs 17 = .ok (.iload_n 1, 1) := by decide +kernel
theorem dX8_proofs_18 : decode cX8_proofs 18 = .ok (.invokevirtual 129, 3) := by decide +kernel
theorem dX8_proofs_21 : decode cX8_proofs 21 = .ok (.ifCond .ne 6, 3) := by decide +kernel
theorem dX8_proofs_24 : decode cX8_proofs 24 = .ok (.bipush (-2), 2) := by decide +kernel
theorem dX8_proofs_26 : decode cX8_proofs 26 = .ok (.ireturn, 1) := by decide +kernel
theorem dX8_proofs_27 : decode cX8_proofs 27 = .ok (.aload_n 0, 1) := by decide +kernel
theorem dX8_proofs_28 : decode cX8_proofs 28 = .ok (.getfield 54, 3) := by decide +kernel
theorem dX8_proofs_31 : decode cX8_proofs 31 = .ok (.aload_n 0, 1) := by decide +kernel
theorem dX8_proofs_32 : decode cX8_proofs 32 = .ok (.getfield 22, 3) := by decide +kernel
theorem dX8_proofs_35 : decode cX8_proofs 35 = .ok (.aload_n 0, 1) := by decide +kernel
theorem dX8_proofs_36 : decode cX8_proofs 36 = .ok (.getfield 25, 3) := by decide +kernel
theorem dX8_proofs_39 : decode cX8_proofs 39 = .ok (.aload_n 0, 1) := by decide +kernel
theorem dX8_proofs_40 : decode cX8_proofs 40 = .ok (.getfield 18, 3) := by decide +kernel
theorem dX8_proofs_43 : decode cX8_proofs 43 = .ok (.iload_n 1, 1) := by decide +kernel
theorem dX8_proofs_44 : decode cX8_proofs 44 = .ok (.aaload, 1) := by decide +kernel
theorem dX8_proofs_45 : decode cX8_proofs 45 = .ok (.iload_n 2, 1) := by decide +kernel
theorem dX8_proofs_46 : decode cX8_proofs 46 = .ok (.ifCond .ne 7, 3) := by decide +kernel
theorem dX8_proofs_49 : decode cX8_proofs 49 = .ok (.iconst 1, 1) := by decide +kernel
theorem dX8_proofs_50 : decode cX8_proofs 50 = .ok (.goto 4, 3) := by decide +kernel
theorem dX8_proofs_53 : decode cX8_proofs 53 = .ok (.iconst 0, 1) := by decide +kernel
theorem dX8_proofs_54 : decode cX8_proofs 54 = .ok (.invokevirtual 136, 3) := by decide +kernel
theorem dX8_proofs_57 : decode cX8_proofs 57 = .ok (.ireturn, 1) := by decide +kernel
theorem dX8_meanings_0 : decode cX8_meanings 0 = .ok (.iload_n 1, 1) := by decide +kernel
theorem dX8_meanings_1 : decode cX8_meanings 1 = .ok (.invokestatic 89, 3) := by decide +kernel
theorem dX8_meanings_4 : decode cX8_meanings 4 = .ok (.ifCond .eq 10, 3) := by decide +kernel
theorem dX8_meanings_7 : decode cX8_meanings 7 = .ok (.iload_n 2, 1) := by decide +kernel
theorem dX8_meanings_8 : decode cX8_meanings 8 = .ok (.invokestatic 126, 3) := by decide +kernel
theorem dX8_meanings_11 : decode cX8_meanings 11 = .ok (.ifCond .ne 5, 3) := by decide +kernel
theorem dX8_meanings_14 : decode cX8_meanings 14 = .ok (.iconst (-1), 1) := by decide +kernel
theorem dX8_meanings_15 : decode cX8_meanings 15 = .ok (.ireturn, 1) := by decide +kernel
theorem dX8_meanings_16 : decode cX8_meanings 16 = .ok (.aload_n 0, 1) := by decide +kernel
theorem dX8_meanings_17 : decode cX8_meanings 17 = .ok (.getfield 22, 3) := by decide +kernel
theorem dX8_meanings_20 : decode cX8_meanings 20 = .ok (.aload_n 0, 1) := by decide +kernel
theorem dX8_meanings_21 : decode cX8_meanings 21 = .ok (.getfield 25, 3) := by decide +kernel
theorem dX8_meanings_24 : decode cX8_meanings 24 = .ok (.aload_n 0, 1) := by decide +kernel
theorem dX8_meanings_25 : decode cX8_meanings 25 = .ok (.getfield 18, 3) := by decide +kernel
theorem dX8_meanings_28 : decode cX8_meanings 28 = .ok (.iload_n 1, 1) := by decide +kernel
theorem dX8_meanings_29 : decode cX8_meanings 29 = .ok (.aaload, 1) := by decide +kernel
theorem dX8_meanings_30 : decode cX8_meanings 30 = .ok (.invokestatic 140, 3) := by decide +kernel
theorem dX8_meanings_33 : decode cX8_meanings 33 = .ok (.ifCond .ne 6, 3) := by decide +kernel
theorem dX8_meanings_36 : decode cX8_meanings 36 = .ok (.bipush (-2), 2) := by decide +kernel
theorem dX8_meanings_38 : decode cX8_meanings 38 = .ok (.ireturn, 1) := by decide +kernel
theorem dX8_meanings_39 : decode cX8_meanings 39 = .ok (.aload_n 0, 1) := by decide +kernel
theorem dX8_meanings_40 : decode cX8_meanings 40 = .ok (.getfield 61, 3) := by decide +kernel
theorem dX8_meanings_43 : decode cX8_meanings 43 = .ok (.aload_n 0, 1) := by decide +kernel
theorem dX8_meanings_44 : decode cX8_meanings 44 = .ok (.getfield 22, 3) := by decide +kernel
theorem dX8_meanings_47 : decode cX8_meanings 47 = .ok (.aload_n 0, 1) := by decide +kernel
theorem dX8_meanings_48 : decode cX8_meanings 48 = .ok (.getfield 25, 3) := by decide +kernel
theorem dX8_meanings_51 : decode cX8_meanings 51 = .ok (.aload_n 0, 1) := by decide +kernel
theorem dX8_meanings_52 : decode cX8_meanings 52 = .ok (.getfield 18, 3) := by decide +kernel
theorem dX8_meanings_55 : decode cX8_meanings 55 = .ok (.iload_n 1, 1) := by decide +kernel
theorem dX8_meanings_56 : decode cX8_meanings 56 = .ok (.aaload, 1) := by decide +kernel
theorem dX8_meanings_57 : decode cX8_meanings 57 = .ok (.iload_n 2, 1) := by decide +kernel
theorem dX8_meanings_58 : decode cX8_meanings 58 = .ok (.ifCond .ne 7, 3) := by decide +kernel
theorem dX8_meanings_61 : decode cX8_meanings 61 = .ok (.iconst 1, 1) := by decide +kernel
theorem dX8_meanings_62 : decode cX8_meanings 62 = .ok (.goto 4, 3) := by decide +kernel
theorem dX8_meanings_65 : decode cX8_meanings 65 = .ok (.iconst 0, 1) := by decide +kernel
theorem dX8_meanings_66 : decode cX8_meanings 66 = .ok (.invokevirtual 144, 3) := by decide +kernel
theorem dX8_meanings_69 : decode cX8_meanings 69 = .ok (.ireturn, 1) := by decide +kernel
theorem dX8_heads_0 : decode cX8_heads 0 = .ok (.iload_n 1, 1) := by decide +kernel
theorem dX8_heads_1 : decode cX8_heads 1 = .ok (.invokestatic 89, 3) := by decide +kernel
theorem dX8_heads_4 : decode cX8_heads 4 = .ok (.ifCond .eq 10, 3) := by decide +kernel
theorem dX8_heads_7 : decode cX8_heads 7 = .ok (.iload_n 2, 1) := by decide +kernel
theorem dX8_heads_8 : decode cX8_heads 8 = .ok (.invokestatic 126, 3) := by decide +kernel
theorem dX8_heads_11 : decode cX8_heads 11 = .ok (.ifCond .ne 5, 3) := by decide +kernel
theorem dX8_heads_14 : decode cX8_heads 14 = .ok (.iconst (-1), 1) := by decide +kernel
theorem dX8_heads_15 : decode cX8_heads 15 = .ok (.ireturn, 1) := by decide +kernel
theorem dX8_heads_16 : decode cX8_heads 16 = .ok (.aload_n 0, 1) := by decide +kernel
theorem dX8_heads_17 : decode cX8_heads 17 = .ok (.getfield 18, 3) := by decide +kernel
theorem dX8_heads_20 : decode cX8_heads 20 = .ok (.iload_n 1, 1) := by decide +kernel
theorem dX8_heads_21 : decode cX8_heads 21 = .ok (.aaload, 1) := by decide +kernel
theorem dX8_heads_22 : decode cX8_heads 22 = .ok (.getfield 99, 3) := by decide +kernel
theorem dX8_heads_25 : decode cX8_heads 25 = .ok (.iconst 1, 1) := by decide +kernel
theorem dX8_heads_26 : decode cX8_heads 26 = .ok (.if_icmp .ne 23, 3) := by decide +kernel
theorem dX8_heads_29 : decode cX8_heads 29 = .ok (.aload_n 0, 1) := by decide +kernel
theorem dX8_heads_30 : decode cX8_heads 30 = .ok (.getfield 22, 3) := by decide +kernel
theorem dX8_heads_33 : decode cX8_heads 33 = .ok (.aload_n 0, 1) := by decide +kernel
theorem dX8_heads_34 : decode cX8_heads 34 = .ok (.getfield 25, 3) := by decide +kernel
theorem dX8_heads_37 : decode cX8_heads 37 = .ok (.aload_n 0, 1) := by decide +kernel
theorem dX8_heads_38 : decode cX8_heads 38 = .ok (.getfield 18, 3) := by decide +kernel
theorem dX8_heads_41 : decode cX8_heads 41 = .ok (.iload_n 1, 1) := by decide +kernel
theorem dX8_heads_42 : decode cX8_heads 42 = .ok (.aaload, 1) := by decide +kernel
theorem dX8_heads_43 : decode cX8_heads 43 = .ok (.invokestatic 140, 3) := by decide +kernel
theorem dX8_heads_46 : decode cX8_heads 46 = .ok (.ifCond .ne 6, 3) := by decide +kernel
theorem dX8_heads_49 : decode cX8_heads 49 = .ok (.bipush (-2), 2) := by decide +kernel
theorem dX8_heads_51 : decode cX8_heads 51 = .ok (.ireturn, 1) := by decide +kernel
theorem dX8_heads_52 : decode cX8_heads 52 = .ok (.aload_n 0, 1) := by decide +kernel
theorem dX8_heads_53 : decode cX8_heads 53 = .ok (.getfield 61, 3) := by decide +kernel
theorem dX8_heads_56 : decode cX8_heads 56 = .ok (.aload_n 0, 1) := by decide +kernel
theorem dX8_heads_57 : decode cX8_heads 57 = .ok (.getfield 22, 3) := by decide +kernel
theorem dX8_heads_60 : decode cX8_heads 60 = .ok (.aload_n 0, 1) := by decide +kernel
theorem dX8_heads_61 : decode cX8_heads 61 = .ok (.getfield 25, 3) := by decide +kernel
theorem dX8_heads_64 : decode cX8_heads 64 = .ok (.aload_n 0, 1) := by decide +kernel
theorem dX8_heads_65 : decode cX8_heads 65 = .ok (.getfield 18, 3) := by decide +kernel
theorem dX8_heads_68 : decode cX8_heads 68 = .ok (.iload_n 1, 1) := by decide +kernel
theorem dX8_heads_69 : decode cX8_heads 69 = .ok (.aaload, 1) := by decide +kernel
theorem dX8_heads_70 : decode cX8_heads 70 = .ok (.iload_n 2, 1) := by decide +kernel
theorem dX8_heads_71 : decode cX8_heads 71 = .ok (.ifCond .ne 7, 3) := by decide +kernel
theorem dX8_heads_74 : decode cX8_heads 74 = .ok (.iconst 1, 1) := by decide +kernel
theorem dX8_heads_75 : decode cX8_heads 75 = .ok (.goto 4, 3) := by decide +kernel
theorem dX8_heads_78 : decode cX8_heads 78 = .ok (.iconst 0, 1) := by decide +kernel
theorem dX8_heads_79 : decode cX8_heads 79 = .ok (.invokevirtual 147, 3) := by decide +kernel
theorem dX8_heads_82 : decode cX8_heads 82 = .ok (.ireturn, 1) := by decide +kernel
theorem dX8_word_0 : decode cX8_word 0 = .ok (.iload_n 1, 1) := by decide +kernel
theorem dX8_word_1 : decode cX8_word 1 = .ok (.invokestatic 150, 3) := by decide +kernel
theorem dX8_word_4 : decode cX8_word 4 = .ok (.ifCond .eq 22, 3) := by decide +kernel
theorem dX8_word_7 : decode cX8_word 7 = .ok (.iload_n 2, 1) := by decide +kernel
theorem dX8_word_8 : decode cX8_word 8 = .ok (.ifCond .lt 18, 3) := by decide +kernel
theorem dX8_word_11 : decode cX8_word 11 = .ok (.iload_n 2, 1) := by decide +kernel
theorem dX8_word_12 : decode cX8_word 12 = .ok (.sipush 4096, 3) := by decide +kernel
theorem dX8_word_15 : decode cX8_word 15 = .ok (.if_icmp .ge 11, 3) := by decide +kernel
theorem dX8_word_18 : decode cX8_word 18 = .ok (.iload_n 2, 1) := by decide +kernel
theorem dX8_word_19 : decode cX8_word 19 = .ok (.invokestatic 153, 3) := by decide +kernel
theorem dX8_word_22 : decode cX8_word 22 = .ok (.iconst 3, 1) := by decide +kernel
theorem dX8_word_23 : decode cX8_word 23 = .ok (.if_icmp .le 5, 3) := by decide +kernel
theorem dX8_word_26 : decode cX8_word 26 = .ok (.iconst (-1), 1) := by decide +kernel
theorem dX8_word_27 : decode cX8_word 27 = .ok (.ireturn, 1) := by decide +kernel
theorem dX8_word_28 : decode cX8_word 28 = .ok (.aload_n 0, 1) := by decide +kernel
theorem dX8_word_29 : decode cX8_word 29 = .ok (.getfield 29, 3) := by decide +kernel
theorem dX8_word_32 : decode cX8_word 32 = .ok (.iload_n 1, 1) := by decide +kernel
theorem dX8_word_33 : decode cX8_word 33 = .ok (.iaload, 1) := by decide +kernel
theorem dX8_word_34 : decode cX8_word 34 = .ok (.istore_n 3, 1) := by decide +kernel
theorem dX8_word_35 : decode cX8_word 35 = .ok (.aload_n 0, 1) := by decide +kernel
theorem dX8_word_36 : decode cX8_word 36 = .ok (.getfield 29, 3) := by decide +kernel
theorem dX8_word_39 : decode cX8_word 39 = .ok (.iload_n 1, 1) := by decide +kernel
theorem dX8_word_40 : decode cX8_word 40 = .ok (.iload_n 2, 1) := by decide +kernel
theorem dX8_word_41 : decode cX8_word 41 = .ok (.iastore, 1) := by decide +kernel
theorem dX8_word_42 : decode cX8_word 42 = .ok (.iload_n 3, 1) := by decide +kernel
theorem dX8_word_43 : decode cX8_word 43 = .ok (.ireturn, 1) := by decide +kernel
theorem dX8_say_0 : decode cX8_say 0 = .ok (.iload_n 1, 1) := by decide +kernel
theorem dX8_say_1 : decode cX8_say 1 = .ok (.invokestatic 150, 3) := by decide +kernel
theorem dX8_say_4 : decode cX8_say 4 = .ok (.ifCond .ne 5, 3) := by decide +kernel
theorem dX8_say_7 : decode cX8_say 7 = .ok (.iconst (-1), 1) := by decide +kernel
theorem dX8_say_8 : decode cX8_say 8 = .ok (.ireturn, 1) := by decide +kernel
theorem dX8_say_9 : decode cX8_say 9 = .ok (.aload_n 0, 1) := by decide +kernel
theorem dX8_say_10 : decode cX8_say 10 = .ok (.getfield 36, 3) := by decide +kernel
theorem dX8_say_13 : decode cX8_say 13 = .ok (.ifCond .lt 15, 3) := by decide +kernel
theorem dX8_say_16 : decode cX8_say 16 = .ok (.aload_n 0, 1) := by decide +kernel
theorem dX8_say_17 : decode cX8_say 17 = .ok (.getfield 36, 3) := by decide +kernel
theorem dX8_say_20 : decode cX8_say 20 = .ok (.aload_n 0, 1) := by decide +kernel
theorem dX8_say_21 : decode cX8_say 21 = .ok (.getfield 33, 3) := by decide +kernel
theorem dX8_say_24 : decode cX8_say 24 = .ok (.arraylength, 1) := by decide +kernel
theorem dX8_say_25 : decode cX8_say 25 = .ok (.if_icmp .lt 6, 3) := by decide +kernel
theorem dX8_say_28 : decode cX8_say 28 = .ok (.bipush (-3), 2) := by decide +kernel
theorem dX8_say_30 : decode cX8_say 30 = .ok (.ireturn, 1) := by decide +kernel
theorem dX8_say_31 : decode cX8_say 31 = .ok (.aload_n 0, 1) := by decide +kernel
theorem dX8_say_32 : decode cX8_say 32 = .ok (.getfield 33, 3) := by decide +kernel
theorem dX8_say_35 : decode cX8_say 35 = .ok (.aload_n 0, 1) := by decide +kernel
theorem dX8_say_36 : decode cX8_say 36 = .ok (.getfield 36, 3) := by decide +kernel
theorem dX8_say_39 : decode cX8_say 39 = .ok (.iload_n 1, 1) := by decide +kernel
theorem dX8_say_40 : decode cX8_say 40 = .ok (.iastore, 1) := by decide +kernel
theorem dX8_say_41 : decode cX8_say 41 = .ok (.aload_n 0, 1) := by decide +kernel
theorem dX8_say_42 : decode cX8_say 42 = .ok (.dup, 1) := by decide +kernel
theorem dX8_say_43 : decode cX8_say 43 = .ok (.getfield 36, 3) := by decide +kernel
theorem dX8_say_46 : decode cX8_say 46 = .ok (.iconst 1, 1) := by decide +kernel
theorem dX8_say_47 : decode cX8_say 47 = .ok (.iadd, 1) := by decide +kernel
theorem dX8_say_48 : decode cX8_say 48 = .ok (.putfield 36, 3) := by decide +kernel
theorem dX8_say_51 : decode cX8_say 51 = .ok (.aload_n 0, 1) := by decide +kernel
theorem dX8_say_52 : decode cX8_say 52 = .ok (.getfield 36, 3) := by decide +kernel
theorem dX8_say_55 : decode cX8_say 55 = .ok (.ireturn, 1) := by decide +kernel
theorem dX8_hush_0 : decode cX8_hush 0 = .ok (.aload_n 0, 1) := by decide +kernel
theorem dX8_hush_1 : decode cX8_hush 1 = .ok (.getfield 36, 3) := by decide +kernel
theorem dX8_hush_4 : decode cX8_hush 4 = .ok (.istore_n 1, 1) := by decide +kernel
theorem dX8_hush_5 : decode cX8_hush 5 = .ok (.aload_n 0, 1) := by decide +kernel
theorem dX8_hush_6 : decode cX8_hush 6 = .ok (.iconst 0, 1) := by decide +kernel
theorem dX8_hush_7 : decode cX8_hush 7 = .ok (.putfield 36, 3) := by decide +kernel
theorem dX8_hush_10 : decode cX8_hush 10 = .ok (.iload_n 1, 1) := by decide +kernel
theorem dX8_hush_11 : decode cX8_hush 11 = .ok (.ireturn, 1) := by decide +kernel
theorem dX8_reads_0 : decode cX8_reads 0 = .ok (.iload_n 1, 1) := by decide +kernel
theorem dX8_reads_1 : decode cX8_reads 1 = .ok (.invokestatic 89, 3) := by decide +kernel
theorem dX8_reads_4 : decode cX8_reads 4 = .ok (.ifCond .eq 19, 3) := by decide +kernel
theorem dX8_reads_7 : decode cX8_reads 7 = .ok (.iload_n 2, 1) := by decide +kernel
theorem dX8_reads_8 : decode cX8_reads 8 = .ok (.invokestatic 126, 3) := by decide +kernel
theorem dX8_reads_11 : decode cX8_reads 11 = .ok (.ifCond .eq 12, 3) := by decide +kernel
theorem dX8_reads_14 : decode cX8_reads 14 = .ok (.iload_n 3, 1) := by decide +kernel
theorem dX8_reads_15 : decode cX8_reads 15 = .ok (.ifCond .lt 8, 3) := by decide +kernel
theorem dX8_reads_18 : decode cX8_reads 18 = .ok (.iload_n 3, 1) := by decide +kernel
theorem dX8_reads_19 : decode cX8_reads 19 = .ok (.iconst 1, 1) := by decide +kernel
theorem dX8_reads_20 : decode cX8_reads 20 = .ok (.if_icmp .le 5, 3) := by decide +kernel
theorem dX8_reads_23 : decode cX8_reads 23 = .ok (.iconst (-1), 1) := by decide +kernel
theorem dX8_reads_24 : decode cX8_reads 24 = .ok (.ireturn, 1) := by decide +kernel
theorem dX8_reads_25 : decode cX8_reads 25 = .ok (.aload_n 0, 1) := by decide +kernel
theorem dX8_reads_26 : decode cX8_reads 26 = .ok (.getfield 70, 3) := by decide +kernel
theorem dX8_reads_29 : decode cX8_reads 29 = .ok (.aload_n 0, 1) := by decide +kernel
theorem dX8_reads_30 : decode cX8_reads 30 = .ok (.getfield 18, 3) := by decide +kernel
theorem dX8_reads_33 : decode cX8_reads 33 = .ok (.aload_n 0, 1) := by decide +kernel
theorem dX8_reads_34 : decode cX8_reads 34 = .ok (.getfield 29, 3) := by decide +kernel
theorem dX8_reads_37 : decode cX8_reads 37 = .ok (.aload_n 0, 1) := by decide +kernel
theorem dX8_reads_38 : decode cX8_reads 38 = .ok (.getfield 18, 3) := by decide +kernel
theorem dX8_reads_41 : decode cX8_reads 41 = .ok (.iload_n 1, 1) := by decide +kernel
theorem dX8_reads_42 : decode cX8_reads 42 = .ok (.aaload, 1) := by decide +kernel
theorem dX8_reads_43 : decode cX8_reads 43 = .ok (.iload_n 2, 1) := by decide +kernel
theorem dX8_reads_44 : decode cX8_reads 44 = .ok (.ifCond .ne 7, 3) := by decide +kernel
theorem dX8_reads_47 : decode cX8_reads 47 = .ok (.iconst 1, 1) := by decide +kernel
theorem dX8_reads_48 : decode cX8_reads 48 = .ok (.goto 4, 3) := by decide +kernel
theorem dX8_reads_51 : decode cX8_reads 51 = .ok (.iconst 0, 1) := by decide +kernel
theorem dX8_reads_52 : decode cX8_reads 52 = .ok (.invokevirtual 158, 3) := by decide +kernel
theorem dX8_reads_55 : decode cX8_reads 55 = .ok (.iload_n 3, 1) := by decide +kernel
theorem dX8_reads_56 : decode cX8_reads 56 = .ok (.ifCond .ne 21, 3) := by decide +kernel
theorem dX8_reads_59 : decode cX8_reads 59 = .ok (.aload_n 0, 1) := by decide +kernel
theorem dX8_reads_60 : decode cX8_reads 60 = .ok (.getfield 70, 3) := by decide +kernel
theorem dX8_reads_63 : decode cX8_reads 63 = .ok (.aload_n 0, 1) := by decide +kernel
theorem dX8_reads_64 : decode cX8_reads 64 = .ok (.getfield 33, 3) := by decide +kernel
theorem dX8_reads_67 : decode cX8_reads 67 = .ok (.aload_n 0, 1) := by decide +kernel
theorem dX8_reads_68 : decode cX8_reads 68 = .ok (.getfield 36, 3) := by decide +kernel
theorem dX8_reads_71 : decode cX8_reads 71 = .ok (.invokevirtual 162, 3) := by decide +kernel
theorem dX8_reads_74 : decode cX8_reads 74 = .ok (.goto 18, 3) := by decide +kernel
theorem dX8_reads_77 : decode cX8_reads 77 = .ok (.aload_n 0, 1) := by decide +kernel
theorem dX8_reads_78 : decode cX8_reads 78 = .ok (.getfield 70, 3) := by decide +kernel
theorem dX8_reads_81 : decode cX8_reads 81 = .ok (.aload_n 0, 1) := by decide +kernel
theorem dX8_reads_82 : decode cX8_reads 82 = .ok (.getfield 33, 3) := by decide +kernel
theorem dX8_reads_85 : decode cX8_reads 85 = .ok (.aload_n 0, 1) := by decide +kernel
theorem dX8_reads_86 : decode cX8_reads 86 = .ok (.getfield 36, 3) := by decide +kernel
theorem dX8_reads_89 : decode cX8_reads 89 = .ok (.invokevirtual 166, 3) := by decide +kernel
theorem dX8_reads_92 : decode cX8_reads 92 = .ok (.ireturn, 1) := by decide +kernel
theorem dX8_first_0 : decode cX8_first 0 = .ok (.iload_n 1, 1) := by decide +kernel
theorem dX8_first_1 : decode cX8_first 1 = .ok (.invokestatic 89, 3) := by decide +kernel
theorem dX8_first_4 : decode cX8_first 4 = .ok (.ifCond .eq 22, 3) := by decide +kernel
theorem dX8_first_7 : decode cX8_first 7 = .ok (.iload_n 2, 1) := by decide +kernel
theorem dX8_first_8 : decode cX8_first 8 = .ok (.invokestatic 126, 3) := by decide +kernel
theorem dX8_first_11 : decode cX8_first 11 = .ok (.ifCond .eq 15, 3) := by decide +kernel
theorem dX8_first_14 : decode cX8_first 14 = .ok (.iload_n 3, 1) := by decide +kernel
theorem dX8_first_15 : decode cX8_first 15 = .ok (.ifCond .lt 11, 3) := by decide +kernel
theorem dX8_first_18 : decode cX8_first 18 = .ok (.iload_n 3, 1) := by decide +kernel
theorem dX8_first_19 : decode cX8_first 19 = .ok (.aload_n 0, 1) := by decide +kernel
theorem dX8_first_20 : decode cX8_first 20 = .ok (.getfield 36, 3) := by decide +kernel
theorem dX8_first_23 : decode cX8_first 23 = .ok (.if_icmp .lt 5, 3) := by decide +kernel
theorem dX8_first_26 : decode cX8_first 26 = .ok (.iconst (-1), 1) := by decide +kernel
theorem dX8_first_27 : decode cX8_first 27 = .ok (.ireturn, 1) := by decide +kernel
theorem dX8_first_28 : decode cX8_first 28 = .ok (.aload_n 0, 1) := by decide +kernel
theorem dX8_first_29 : decode cX8_first 29 = .ok (.getfield 70, 3) := by decide +kernel
theorem dX8_first_32 : decode cX8_first 32 = .ok (.aload_n 0, 1) := by decide +kernel
theorem dX8_first_33 : decode cX8_first 33 = .ok (.getfield 18, 3) := by decide +kernel
theorem dX8_first_36 : decode cX8_first 36 = .ok (.aload_n 0, 1) := by decide +kernel
theorem dX8_first_37 : decode cX8_first 37 = .ok (.getfield 29, 3) := by decide +kernel
theorem dX8_first_40 : decode cX8_first 40 = .ok (.aload_n 0, 1) := by decide +kernel
theorem dX8_first_41 : decode cX8_first 41 = .ok (.getfield 18, 3) := by decide +kernel
theorem dX8_first_44 : decode cX8_first 44 = .ok (.iload_n 1, 1) := by decide +kernel
theorem dX8_first_45 : decode cX8_first 45 = .ok (.aaload, 1) := by decide +kernel
theorem dX8_first_46 : decode cX8_first 46 = .ok (.iload_n 2, 1) := by decide +kernel
theorem dX8_first_47 : decode cX8_first 47 = .ok (.ifCond .ne 7, 3) := by decide +kernel
theorem dX8_first_50 : decode cX8_first 50 = .ok (.iconst 1, 1) := by decide +kernel
theorem dX8_first_51 : decode cX8_first 51 = .ok (.goto 4, 3) := by decide +kernel
theorem dX8_first_54 : decode cX8_first 54 = .ok (.iconst 0, 1) := by decide +kernel
theorem dX8_first_55 : decode cX8_first 55 = .ok (.invokevirtual 158, 3) := by decide +kernel
theorem dX8_first_58 : decode cX8_first 58 = .ok (.aload_n 0, 1) := by decide +kernel
theorem dX8_first_59 : decode cX8_first 59 = .ok (.getfield 70, 3) := by decide +kernel
theorem dX8_first_62 : decode cX8_first 62 = .ok (.aload_n 0, 1) := by decide +kernel
theorem dX8_first_63 : decode cX8_first 63 = .ok (.getfield 33, 3) := by decide +kernel
theorem dX8_first_66 : decode cX8_first 66 = .ok (.aload_n 0, 1) := by decide +kernel
theorem dX8_first_67 : decode cX8_first 67 = .ok (.getfield 36, 3) := by decide +kernel
theorem dX8_first_70 : decode cX8_first 70 = .ok (.invokevirtual 169, 3) := by decide +kernel
theorem dX8_first_73 : decode cX8_first 73 = .ok (.ifCond .eq 18, 3) := by decide +kernel
theorem dX8_first_76 : decode cX8_first 76 = .ok (.aload_n 0, 1) := by decide +kernel
theorem dX8_first_77 : decode cX8_first 77 = .ok (.getfield 70, 3) := by decide +kernel
theorem dX8_first_80 : decode cX8_first 80 = .ok (.aload_n 0, 1) := by decide +kernel
theorem dX8_first_81 : decode cX8_first 81 = .ok (.getfield 33, 3) := by decide +kernel
theorem dX8_first_84 : decode cX8_first 84 = .ok (.iload_n 3, 1) := by decide +kernel
theorem dX8_first_85 : decode cX8_first 85 = .ok (.invokevirtual 173, 3) := by decide +kernel
theorem dX8_first_88 : decode cX8_first 88 = .ok (.goto 5, 3) := by decide +kernel
theorem dX8_first_91 : decode cX8_first 91 = .ok (.bipush (-9), 2) := by decide +kernel
theorem dX8_first_93 : decode cX8_first 93 = .ok (.ireturn, 1) := by decide +kernel
theorem dX8_rows_0 : decode cX8_rows 0 = .ok (.iload_n 1, 1) := by decide +kernel
theorem dX8_rows_1 : decode cX8_rows 1 = .ok (.invokestatic 89, 3) := by decide +kernel
theorem dX8_rows_4 : decode cX8_rows 4 = .ok (.ifCond .eq 20, 3) := by decide +kernel
theorem dX8_rows_7 : decode cX8_rows 7 = .ok (.iload_n 2, 1) := by decide +kernel
theorem dX8_rows_8 : decode cX8_rows 8 = .ok (.invokestatic 126, 3) := by decide +kernel
theorem dX8_rows_11 : decode cX8_rows 11 = .ok (.ifCond .eq 13, 3) := by decide +kernel
theorem dX8_rows_14 : decode cX8_rows 14 = .ok (.iload_n 3, 1) := by decide +kernel
theorem dX8_rows_15 : decode cX8_rows 15 = .ok (.iconst 1, 1) := by decide +kernel
theorem dX8_rows_16 : decode cX8_rows 16 = .ok (.if_icmp .lt 8, 3) := by decide +kernel
theorem dX8_rows_19 : decode cX8_rows 19 = .ok (.iload_n 3, 1) := by decide +kernel
theorem dX8_rows_20 : decode cX8_rows 20 = .ok (.iconst 4, 1) := by decide +kernel
theorem dX8_rows_21 : decode cX8_rows 21 = .ok (.if_icmp .le 5, 3) := by decide +kernel
theorem dX8_rows_24 : decode cX8_rows 24 = .ok (.iconst (-1), 1) := by decide +kernel
theorem dX8_rows_25 : decode cX8_rows 25 = .ok (.ireturn, 1) := by decide +kernel
theorem dX8_rows_26 : decode cX8_rows 26 = .ok (.aload_n 0, 1) := by decide +kernel
theorem dX8_rows_27 : decode cX8_rows 27 = .ok (.getfield 70, 3) := by decide +kernel
theorem dX8_rows_30 : decode cX8_rows 30 = .ok (.aload_n 0, 1) := by decide +kernel
theorem dX8_rows_31 : decode cX8_rows 31 = .ok (.getfield 18, 3) := by decide +kernel
theorem dX8_rows_34 : decode cX8_rows 34 = .ok (.aload_n 0, 1) := by decide +kernel
theorem dX8_rows_35 : decode cX8_rows 35 = .ok (.getfield 29, 3) := by decide +kernel
theorem dX8_rows_38 : decode cX8_rows 38 = .ok (.aload_n 0, 1) := by decide +kernel
theorem dX8_rows_39 : decode cX8_rows 39 = .ok (.getfield 18, 3) := by decide +kernel
theorem dX8_rows_42 : decode cX8_rows 42 = .ok (.iload_n 1, 1) := by decide +kernel
theorem dX8_rows_43 : decode cX8_rows 43 = .ok (.aaload, 1) := by decide +kernel
theorem dX8_rows_44 : decode cX8_rows 44 = .ok (.iload_n 2, 1) := by decide +kernel
theorem dX8_rows_45 : decode cX8_rows 45 = .ok (.ifCond .ne 7, 3) := by decide +kernel
theorem dX8_rows_48 : decode cX8_rows 48 = .ok (.iconst 1, 1) := by decide +kernel
theorem dX8_rows_49 : decode cX8_rows 49 = .ok (.goto 4, 3) := by decide +kernel
theorem dX8_rows_52 : decode cX8_rows 52 = .ok (.iconst 0, 1) := by decide +kernel
theorem dX8_rows_53 : decode cX8_rows 53 = .ok (.invokevirtual 158, 3) := by decide +kernel
theorem dX8_rows_56 : decode cX8_rows 56 = .ok (.aload_n 0, 1) := by decide +kernel
theorem dX8_rows_57 : decode cX8_rows 57 = .ok (.getfield 70, 3) := by decide +kernel
theorem dX8_rows_60 : decode cX8_rows 60 = .ok (.iload_n 3, 1) := by decide +kernel
theorem dX8_rows_61 : decode cX8_rows 61 = .ok (.invokevirtual 176, 3) := by decide +kernel
theorem dX8_rows_64 : decode cX8_rows 64 = .ok (.ireturn, 1) := by decide +kernel
theorem dX8_near_0 : decode cX8_near 0 = .ok (.iload_n 1, 1) := by decide +kernel
theorem dX8_near_1 : decode cX8_near 1 = .ok (.invokestatic 89, 3) := by decide +kernel
theorem dX8_near_4 : decode cX8_near 4 = .ok (.ifCond .eq 23, 3) := by decide +kernel
theorem dX8_near_7 : decode cX8_near 7 = .ok (.iload_n 2, 1) := by decide +kernel
theorem dX8_near_8 : decode cX8_near 8 = .ok (.invokestatic 126, 3) := by decide +kernel
theorem dX8_near_11 : decode cX8_near 11 = .ok (.ifCond .eq 16, 3) := by decide +kernel
theorem dX8_near_14 : decode cX8_near 14 = .ok (.iload_n 3, 1) := by decide +kernel
theorem dX8_near_15 : decode cX8_near 15 = .ok (.iconst (-1), 1) := by decide +kernel
theorem dX8_near_16 : decode cX8_near 16 = .ok (.if_icmp .lt 11, 3) := by decide +kernel
theorem dX8_near_19 : decode cX8_near 19 = .ok (.iload_n 3, 1) := by decide +kernel
theorem dX8_near_20 : decode cX8_near 20 = .ok (.aload_n 0, 1) := by decide +kernel
theorem dX8_near_21 : decode cX8_near 21 = .ok (.getfield 36, 3) := by decide +kernel
theorem dX8_near_24 : decode cX8_near 24 = .ok (.if_icmp .lt 5, 3) := by decide +kernel
theorem dX8_near_27 : decode cX8_near 27 = .ok (.iconst (-1), 1) := by decide +kernel
theorem dX8_near_28 : decode cX8_near 28 = .ok (.ireturn, 1) := by decide +kernel
theorem dX8_near_29 : decode cX8_near 29 = .ok (.aload_n 0, 1) := by decide +kernel
theorem dX8_near_30 : decode cX8_near 30 = .ok (.getfield 36, 3) := by decide +kernel
theorem dX8_near_33 : decode cX8_near 33 = .ok (.iconst 4, 1) := by decide +kernel
theorem dX8_near_34 : decode cX8_near 34 = .ok (.if_icmp .le 6, 3) := by decide +kernel
theorem dX8_near_37 : decode cX8_near 37 = .ok (.bipush (-2), 2) := by decide +kernel
theorem dX8_near_39 : decode cX8_near 39 = .ok (.ireturn, 1) := by decide +kernel
theorem dX8_near_40 : decode cX8_near 40 = .ok (.aload_n 0, 1) := by decide +kernel
theorem dX8_near_41 : decode cX8_near 41 = .ok (.getfield 70, 3) := by decide +kernel
theorem dX8_near_44 : decode cX8_near 44 = .ok (.aload_n 0, 1) := by decide +kernel
theorem dX8_near_45 : decode cX8_near 45 = .ok (.getfield 18, 3) := by decide +kernel
theorem dX8_near_48 : decode cX8_near 48 = .ok (.aload_n 0, 1) := by decide +kernel
theorem dX8_near_49 : decode cX8_near 49 = .ok (.getfield 29, 3) := by decide +kernel
theorem dX8_near_52 : decode cX8_near 52 = .ok (.aload_n 0, 1) := by decide +kernel
theorem dX8_near_53 : decode cX8_near 53 = .ok (.getfield 18, 3) := by decide +kernel
theorem dX8_near_56 : decode cX8_near 56 = .ok (.iload_n 1, 1) := by decide +kernel
theorem dX8_near_57 : decode cX8_near 57 = .ok (.aaload, 1) := by decide +kernel
theorem dX8_near_58 : decode cX8_near 58 = .ok (.iload_n 2, 1) := by decide +kernel
theorem dX8_near_59 : decode cX8_near 59 = .ok (.ifCond .ne 7, 3) := by decide +kernel
theorem dX8_near_62 : decode cX8_near 62 = .ok (.iconst 1, 1) := by decide +kernel
theorem dX8_near_63 : decode cX8_near 63 = .ok (.goto 4, 3) := by decide +kernel
theorem dX8_near_66 : decode cX8_near 66 = .ok (.iconst 0, 1) := by decide +kernel
theorem dX8_near_67 : decode cX8_near 67 = .ok (.invokevirtual 158, 3) := by decide +kernel
theorem dX8_near_70 : decode cX8_near 70 = .ok (.aload_n 0, 1) := by decide +kernel
theorem dX8_near_71 : decode cX8_near 71 = .ok (.getfield 70, 3) := by decide +kernel
theorem dX8_near_74 : decode cX8_near 74 = .ok (.aload_n 0, 1) := by decide +kernel
theorem dX8_near_75 : decode cX8_near 75 = .ok (.getfield 33, 3) := by decide +kernel
theorem dX8_near_78 : decode cX8_near 78 = .ok (.aload_n 0, 1) := by decide +kernel
theorem dX8_near_79 : decode cX8_near 79 = .ok (.getfield 36, 3) := by decide +kernel
theorem dX8_near_82 : decode cX8_near 82 = .ok (.invokevirtual 179, 3) := by decide +kernel
theorem dX8_near_85 : decode cX8_near 85 = .ok (.istore 4, 2) := by decide +kernel
theorem dX8_near_87 : decode cX8_near 87 = .ok (.iload 4, 2) := by decide +kernel
theorem dX8_near_89 : decode cX8_near 89 = .ok (.ifCond .ge 6, 3) := by decide +kernel
theorem dX8_near_92 : decode cX8_near 92 = .ok (.bipush (-9), 2) := by decide +kernel
theorem dX8_near_94 : decode cX8_near 94 = .ok (.ireturn, 1) := by decide +kernel
theorem dX8_near_95 : decode cX8_near 95 = .ok (.iload_n 3, 1) := by decide +kernel
theorem dX8_near_96 : decode cX8_near 96 = .ok (.ifCond .ge 8, 3) := by decide +kernel
theorem dX8_near_99 : decode cX8_near 99 = .ok (.iload 4, 2) := by decide +kernel
theorem dX8_near_101 : decode cX8_near 101 = .ok (.goto 11, 3) := by decide +kernel
theorem dX8_near_104 : decode cX8_near 104 = .ok (.aload_n 0, 1) := by decide +kernel
theorem dX8_near_105 : decode cX8_near 105 = .ok (.getfield 70, 3) := by decide +kernel
theorem dX8_near_108 : decode cX8_near 108 = .ok (.iload_n 3, 1) := by decide +kernel
theorem dX8_near_109 : decode cX8_near 109 = .ok (.invokevirtual 182, 3) := by decide +kernel
theorem dX8_near_112 : decode cX8_near 112 = .ok (.ireturn, 1) := by decide +kernel
theorem dX8_count_0 : decode cX8_count 0 = .ok (.iload_n 1, 1) := by decide +kernel
theorem dX8_count_1 : decode cX8_count 1 = .ok (.tableswitch 61 0 3 #[31, 36, 41, 49], 31) := by decide +kernel
theorem dX8_count_32 : decode cX8_count 32 = .ok (.aload_n 0, 1) := by decide +kernel
theorem dX8_count_33 : decode cX8_count 33 = .ok (.getfield 25, 3) := by decide +kernel
theorem dX8_count_36 : decode cX8_count 36 = .ok (.ireturn, 1) := by decide +kernel
theorem dX8_count_37 : decode cX8_count 37 = .ok (.aload_n 0, 1) := by decide +kernel
theorem dX8_count_38 : decode cX8_count 38 = .ok (.getfield 36, 3) := by decide +kernel
theorem dX8_count_41 : decode cX8_count 41 = .ok (.ireturn, 1) := by decide +kernel
theorem dX8_count_42 : decode cX8_count 42 = .ok (.aload_n 0, 1) := by decide +kernel
theorem dX8_count_43 : decode cX8_count 43 = .ok (.getfield 10, 3) := by decide +kernel
theorem dX8_count_46 : decode cX8_count 46 = .ok (.invokevirtual 82, 3) := by decide +kernel
theorem dX8_count_49 : decode cX8_count 49 = .ok (.ireturn, 1) := by decide +kernel
theorem dX8_count_50 : decode cX8_count 50 = .ok (.aload_n 0, 1) := by decide +kernel
theorem dX8_count_51 : decode cX8_count 51 = .ok (.getfield 22, 3) := by decide +kernel
theorem dX8_count_54 : decode cX8_count 54 = .ok (.aload_n 0, 1) := by decide +kernel
theorem dX8_count_55 : decode cX8_count 55 = .ok (.getfield 25, 3) := by decide +kernel
theorem dX8_count_58 : decode cX8_count 58 = .ok (.invokestatic 185, 3) := by decide +kernel
theorem dX8_count_61 : decode cX8_count 61 = .ok (.ireturn, 1) := by decide +kernel
theorem dX8_count_62 : decode cX8_count 62 = .ok (.iconst (-1), 1) := by decide +kernel
theorem dX8_count_63 : decode cX8_count 63 = .ok (.ireturn, 1) := by decide +kernel
theorem dX8_isKindNumber_0 : decode cX8_isKindNumber 0 = .ok (.iload_n 0, 1) := by decide +kernel
theorem dX8_isKindNumber_1 : decode cX8_isKindNumber 1 = .ok (.ifCond .lt 13, 3) := by decide +kernel
theorem dX8_isKindNumber_4 : decode cX8_isKindNumber 4 = .ok (.iload_n 0, 1) := by decide +kernel
theorem dX8_isKindNumber_5 : decode cX8_isKindNumber 5 = .ok (.bipush 12, 2) := by decide +kernel
theorem dX8_isKindNumber_7 : decode cX8_isKindNumber 7 = .ok (.if_icmp .ge 7, 3) := by decide +kernel
theorem dX8_isKindNumber_10 : decode cX8_isKindNumber 10 = .ok (.iconst 1, 1) := by decide +kernel
theorem dX8_isKindNumber_11 : decode cX8_isKindNumber 11 = .ok (.goto 4, 3) := by decide +kernel
theorem dX8_isKindNumber_14 : decode cX8_isKindNumber 14 = .ok (.iconst 0, 1) := by decide +kernel
theorem dX8_isKindNumber_15 : decode cX8_isKindNumber 15 = .ok (.ireturn, 1) := by decide +kernel
theorem dX8_isLogic_0 : decode cX8_isLogic 0 = .ok (.iload_n 0, 1) := by decide +kernel
theorem dX8_isLogic_1 : decode cX8_isLogic 1 = .ok (.ifCond .eq 8, 3) := by decide +kernel
theorem dX8_isLogic_4 : decode cX8_isLogic 4 = .ok (.iload_n 0, 1) := by decide +kernel
theorem dX8_isLogic_5 : decode cX8_isLogic 5 = .ok (.iconst 1, 1) := by decide +kernel
theorem dX8_isLogic_6 : decode cX8_isLogic 6 = .ok (.if_icmp .ne 7, 3) := by decide +kernel
theorem dX8_isLogic_9 : decode cX8_isLogic 9 = .ok (.iconst 1, 1) := by decide +kernel
theorem dX8_isLogic_10 : decode cX8_isLogic 10 = .ok (.goto 4, 3) := by decide +kernel
theorem dX8_isLogic_13 : decode cX8_isLogic 13 = .ok (.iconst 0, 1) := by decide +kernel
theorem dX8_isLogic_14 : decode cX8_isLogic 14 = .ok (.ireturn, 1) := by decide +kernel
theorem dX8_isWord_0 : decode cX8_isWord 0 = .ok (.iload_n 0, 1) := by decide +kernel
theorem dX8_isWord_1 : decode cX8_isWord 1 = .ok (.ifCond .lt 12, 3) := by decide +kernel
theorem dX8_isWord_4 : decode cX8_isWord 4 = .ok (.iload_n 0, 1) := by decide +kernel
theorem dX8_isWord_5 : decode cX8_isWord 5 = .ok (.iconst 4, 1) := by decide +kernel
theorem dX8_isWord_6 : decode cX8_isWord 6 = .ok (.if_icmp .ge 7, 3) := by decide +kernel
theorem dX8_isWord_9 : decode cX8_isWord 9 = .ok (.iconst 1, 1) := by decide +kernel
theorem dX8_isWord_10 : decode cX8_isWord 10 = .ok (.goto 4, 3) := by decide +kernel
theorem dX8_isWord_13 : decode cX8_isWord 13 = .ok (.iconst 0, 1) := by decide +kernel
theorem dX8_isWord_14 : decode cX8_isWord 14 = .ok (.ireturn, 1) := by decide +kernel
theorem dX8_provable_0 : decode cX8_provable 0 = .ok (.iload_n 1, 1) := by decide +kernel
theorem dX8_provable_1 : decode cX8_provable 1 = .ok (.invokestatic 89, 3) := by decide +kernel
theorem dX8_provable_4 : decode cX8_provable 4 = .ok (.ifCond .eq 33, 3) := by decide +kernel
theorem dX8_provable_7 : decode cX8_provable 7 = .ok (.aload_n 0, 1) := by decide +kernel
theorem dX8_provable_8 : decode cX8_provable 8 = .ok (.getfield 22, 3) := by decide +kernel
theorem dX8_provable_11 : decode cX8_provable 11 = .ok (.aload_n 0, 1) := by decide +kernel
theorem dX8_provable_12 : decode cX8_provable 12 = .ok (.getfield 25, 3) := by decide +kernel
theorem dX8_provable_15 : decode cX8_provable 15 = .ok (.invokestatic 185, 3) := by decide +kernel
theorem dX8_provable_18 : decode cX8_provable 18 = .ok (.aload_n 0, 1) := by decide +kernel
theorem dX8_provable_19 : decode cX8_provable 19 = .ok (.getfield 18, 3) := by decide +kernel
theorem dX8_provable_22 : decode cX8_provable 22 = .ok (.iload_n 1, 1) := by decide +kernel
theorem dX8_provable_23 : decode cX8_provable 23 = .ok (.aaload, 1) := by decide +kernel
theorem dX8_provable_24 : decode cX8_provable 24 = .ok (.getfield 99, 3) := by decide +kernel
theorem dX8_provable_27 : decode cX8_provable 27 = .ok (.iadd, 1) := by decide +kernel
theorem dX8_provable_28 : decode cX8_provable 28 = .ok (.bipush 12, 2) := by decide +kernel
theorem dX8_provable_30 : decode cX8_provable 30 = .ok (.if_icmp .gt 7, 3) := by decide +kernel
theorem dX8_provable_33 : decode cX8_provable 33 = .ok (.iconst 1, 1) := by decide +kernel
theorem dX8_provable_34 : decode cX8_provable 34 = .ok (.goto 4, 3) := by decide +kernel
theorem dX8_provable_37 : decode cX8_provable 37 = .ok (.iconst 0, 1) := by decide +kernel
theorem dX8_provable_38 : decode cX8_provable 38 = .ok (.ireturn, 1) := by decide +kernel
