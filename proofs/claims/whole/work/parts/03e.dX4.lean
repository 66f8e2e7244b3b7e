theorem dX4_init_0 : decode cX4_init 0 = .ok (.aload_n 0, 1) := by decide +kernel
theorem dX4_init_1 : decode cX4_init 1 = .ok (.invokespecial 3, 3) := by decide +kernel
theorem dX4_init_4 : decode cX4_init 4 = .ok (.aload_n 0, 1) := by decide +kernel
theorem dX4_init_5 : decode cX4_init 5 = .ok (.bipush 32, 2) := by decide +kernel
theorem dX4_init_7 : decode cX4_init 7 = .ok (.newarray .int, 2) := by decide +kernel
theorem dX4_init_9 : decode cX4_init 9 = .ok (.putfield 9, 3) := by decide +kernel
theorem dX4_init_12 : decode cX4_init 12 = .ok (.aload_n 0, 1) := by decide +kernel
theorem dX4_init_13 : decode cX4_init 13 = .ok (.bipush 32, 2) := by decide +kernel
theorem dX4_init_15 : decode cX4_init 15 = .ok (.newarray .int, 2) := by decide +kernel
theorem dX4_init_17 : decode cX4_init 17 = .ok (.putfield 13, 3) := by decide +kernel
theorem dX4_init_20 : decode cX4_init 20 = .ok (.aload_n 0, 1) := by decide +kernel
theorem dX4_init_21 : decode cX4_init 21 = .ok (.bipush 32, 2) := by decide +kernel
theorem dX4_init_23 : decode cX4_init 23 = .ok (.newarray .int, 2) := by decide +kernel
theorem dX4_init_25 : decode cX4_init 25 = .ok (.putfield 16, 3) := by decide +kernel
theorem dX4_init_28 : decode cX4_init 28 = .ok (.aload_n 0, 1) := by decide +kernel
theorem dX4_init_29 : decode cX4_init 29 = .ok (.bipush 32, 2) := by decide +kernel
theorem dX4_init_31 : decode cX4_init 31 = .ok (.newarray .int, 2) := by decide +kernel
theorem dX4_init_33 : decode cX4_init 33 = .ok (.putfield 19, 3) := by decide +kernel
theorem dX4_init_36 : decode cX4_init 36 = .ok (.aload_n 0, 1) := by decide +kernel
theorem dX4_init_37 : decode cX4_init 37 = .ok (.bipush 32, 2) := by decide +kernel
theorem dX4_init_39 : decode cX4_init 39 = .ok (.newarray .long, 2) := by decide +kernel
theorem dX4_init_41 : decode cX4_init 41 = .ok (.putfield 22, 3) := by decide +kernel
theorem dX4_init_44 : decode cX4_init 44 = .ok (.aload_n 0, 1) := by decide +kernel
theorem dX4_init_45 : decode cX4_init 45 = .ok (.bipush 32, 2) := by decide +kernel
theorem dX4_init_47 : decode cX4_init 47 = .ok (.newarray .int, 2) := by decide +kernel
theorem dX4_init_49 : decode cX4_init 49 = .ok (.putfield 28, 3) := by decide +kernel
theorem dX4_init_52 : decode cX4_init 52 = .ok (.aload_n 0, 1) := by decide +kernel
theorem dX4_init_53 : decode cX4_init 53 = .ok (.iconst 0, 1) := by decide +kernel
theorem dX4_init_54 : decode cX4_init 54 = .ok (.putfield 31, 3) := by decide +kernel
theorem dX4_init_57 : decode cX4_init 57 = .ok (.return_, 1) := by decide +kernel
theorem dX4_empty_0 : decode cX4_empty 0 = .ok (.aload_n 0, 1) := by decide +kernel
theorem dX4_empty_1 : decode cX4_empty 1 = .ok (.iconst 0, 1) := by decide +kernel
theorem dX4_empty_2 : decode cX4_empty 2 = .ok (.putfield 31, 3) := by decide +kernel
theorem dX4_empty_5 : decode cX4_empty 5 = .ok (.return_, 1) := by decide +kernel
theorem dX4_plant_0 : decode cX4_plant 0 = .ok (.iconst 0, 1) := by decide +kernel
theorem dX4_plant_1 : decode cX4_plant 1 = .ok (.istore_n 2, 1) := by decide +kernel
theorem dX4_plant_2 : decode cX4_plant 2 = .ok (.iconst 0, 1) := by decide +kernel
theorem dX4_plant_3 : decode cX4_plant 3 = .ok (.istore_n 3, 1) := by decide +kernel
theorem dX4_plant_4 : decode cX4_plant 4 = .ok (.iload_n 3, 1) := by decide +kernel
theorem dX4_plant_5 : decode cX4_plant 5 = .ok (.aload_n 1, 1) := by decide +kernel
theorem dX4_plant_6 : decode cX4_plant 6 = .ok (.getfield 35, 3) := by decide +kernel
theorem dX4_plant_9 : decode cX4_plant 9 = .ok (.if_icmp .ge 101, 3) := by decide +kernel
theorem dX4_plant_12 : decode cX4_plant 12 = .ok (.iload_n 3, 1) := by decide +kernel
theorem dX4_plant_13 : decode cX4_plant 13 = .ok (.bipush 32, 2) := by decide +kernel
theorem dX4_plant_15 : decode cX4_plant 15 = .ok (.if_icmp .ge 95, 3) := by decide +kernel
theorem dX4_plant_18 : decode cX4_plant 18 = .ok (.aload_n 1, 1) := by decide +kernel
theorem dX4_plant_19 : decode cX4_plant 19 = .ok (.getfield 38, 3) := by decide +kernel
theorem dX4_plant_22 : decode cX4_plant 22 = .ok (.iload_n 3, 1) := by decide +kernel
theorem dX4_plant_23 : decode cX4_plant 23 = .ok (.iaload, 1) := by decide +kernel
theorem dX4_plant_24 : decode cX4_plant 24 = .ok (.bipush 8, 2) := by decide +kernel
theorem dX4_plant_26 : decode cX4_plant 26 = .ok (.if_icmp .ge 7, 3) := by decide +kernel
theorem dX4_plant_29 : decode cX4_plant 29 = .ok (.iconst 1, 1) := by decide +kernel
theorem dX4_plant_30 : decode cX4_plant 30 = .ok (.goto 4, 3) := by decide +kernel
theorem dX4_plant_33 : decode cX4_plant 33 = .ok (.iconst 0, 1) := by decide +kernel
theorem dX4_plant_34 : decode cX4_plant 34 = .ok (.istore 4, 2) := by decide +kernel
theorem dX4_plant_36 : decode cX4_plant 36 = .ok (.iload 4, 2) := by decide +kernel
theorem dX4_plant_38 : decode cX4_plant 38 = .ok (.ifCond .eq 7, 3) := by decide +kernel
theorem dX4_plant_41 : decode cX4_plant 41 = .ok (.iconst 0, 1) := by decide +kernel
theorem dX4_plant_42 : decode cX4_plant 42 = .ok (.goto 17, 3) := by decide +kernel
theorem dX4_plant_45 : decode cX4_plant 45 = .ok (.aload_n 0, 1) := by decide +kernel
theorem dX4_plant_46 : decode cX4_plant 46 = .ok (.getfield 28, 3) := by decide +kernel
theorem dX4_plant_49 : decode cX4_plant 49 = .ok (.aload_n 1, 1) := by decide +kernel
theorem dX4_plant_50 : decode cX4_plant 50 = .ok (.getfield 39, 3) := by decide +kernel
theorem dX4_plant_53 : decode cX4_plant 53 = .ok (.iload_n 3, 1) := by decide +kernel
theorem dX4_plant_54 : decode cX4_plant 54 = .ok (.iaload, 1) := by decide +kernel
theorem dX4_plant_55 : decode cX4_plant 55 = .ok (.bipush 31, 2) := by decide +kernel
theorem dX4_plant_57 : decode cX4_plant 57 = .ok (.iand, 1) := by decide +kernel
theorem dX4_plant_58 : decode cX4_plant 58 = .ok (.iaload, 1) := by decide +kernel
theorem dX4_plant_59 : decode cX4_plant 59 = .ok (.istore 5, 2) := by decide +kernel
theorem dX4_plant_61 : decode cX4_plant 61 = .ok (.iload 4, 2) := by decide +kernel
theorem dX4_plant_63 : decode cX4_plant 63 = .ok (.ifCond .eq 7, 3) := by decide +kernel
theorem dX4_plant_66 : decode cX4_plant 66 = .ok (.iconst 0, 1) := by decide +kernel
theorem dX4_plant_67 : decode cX4_plant 67 = .ok (.goto 17, 3) := by decide +kernel
theorem dX4_plant_70 : decode cX4_plant 70 = .ok (.aload_n 0, 1) := by decide +kernel
theorem dX4_plant_71 : decode cX4_plant 71 = .ok (.getfield 28, 3) := by decide +kernel
theorem dX4_plant_74 : decode cX4_plant 74 = .ok (.aload_n 1, 1) := by decide +kernel
theorem dX4_plant_75 : decode cX4_plant 75 = .ok (.getfield 40, 3) := by decide +kernel
theorem dX4_plant_78 : decode cX4_plant 78 = .ok (.iload_n 3, 1) := by decide +kernel
theorem dX4_plant_79 : decode cX4_plant 79 = .ok (.iaload, 1) := by decide +kernel
theorem dX4_plant_80 : decode cX4_plant 80 = .ok (.bipush 31, 2) := by decide +kernel
theorem dX4_plant_82 : decode cX4_plant 82 = .ok (.iand, 1) := by decide +kernel
theorem dX4_plant_83 : decode cX4_plant 83 = .ok (.iaload, 1) := by decide +kernel
theorem dX4_plant_84 : decode cX4_plant 84 = .ok (.istore 6, 2) := by decide +kernel
theorem dX4_plant_86 : decode cX4_plant 86 = .ok (.aload_n 0, 1) := by decide +kernel
theorem dX4_plant_87 : decode cX4_plant 87 = .ok (.aload_n 1, 1) := by decide +kernel
theorem dX4_plant_88 : decode cX4_plant 88 = .ok (.iload_n 3, 1) := by decide +kernel
theorem dX4_plant_89 : decode cX4_plant 89 = .ok (.iload 5, 2) := by decide +kernel
theorem dX4_plant_91 : decode cX4_plant 91 = .ok (.iload 6, 2) := by decide +kernel
theorem dX4_plant_93 : decode cX4_plant 93 = .ok (.invokevirtual 41, 3) := by decide +kernel
theorem dX4_plant_96 : decode cX4_plant 96 = .ok (.istore_n 2, 1) := by decide +kernel
theorem dX4_plant_97 : decode cX4_plant 97 = .ok (.aload_n 0, 1) := by decide +kernel
theorem dX4_plant_98 : decode cX4_plant 98 = .ok (.getfield 28, 3) := by decide +kernel
theorem dX4_plant_101 : decode cX4_plant 101 = .ok (.iload_n 3, 1) := by decide +kernel
theorem dX4_plant_102 : decode cX4_plant 102 = .ok (.iload_n 2, 1) := by decide +kernel
theorem dX4_plant_103 : decode cX4_plant 103 = .ok (.iastore, 1) := by decide +kernel
theorem dX4_plant_104 : decode cX4_plant 104 = .ok (.iinc 3 1, 3) := by decide +kernel
theorem dX4_plant_107 : decode cX4_plant 107 = .ok (.goto (-103), 3) := by decide +kernel
theorem dX4_plant_110 : decode cX4_plant 110 = .ok (.iload_n 2, 1) := by decide +kernel
theorem dX4_plant_111 : decode cX4_plant 111 = .ok (.ireturn, 1) := by decide +kernel
theorem dX4_plantRow_0 : decode cX4_plantRow 0 = .ok (.lconst 0, 1) := by decide +kernel
theorem dX4_plantRow_1 : decode cX4_plantRow 1 = .ok (.lstore_n 3, 1) := by decide +kernel
theorem dX4_plantRow_2 : decode cX4_plantRow 2 = .ok (.iconst 0, 1) := by decide +kernel
theorem dX4_plantRow_3 : decode cX4_plantRow 3 = .ok (.istore 5, 2) := by decide +kernel
theorem dX4_plantRow_5 : decode cX4_plantRow 5 = .ok (.iload 5, 2) := by decide +kernel
theorem dX4_plantRow_7 : decode cX4_plantRow 7 = .ok (.iload_n 2, 1) := by decide +kernel
theorem dX4_plantRow_8 : decode cX4_plantRow 8 = .ok (.if_icmp .ge 31, 3) := by decide +kernel
theorem dX4_plantRow_11 : decode cX4_plantRow 11 = .ok (.iload 5, 2) := by decide +kernel
theorem dX4_plantRow_13 : decode cX4_plantRow 13 = .ok (.aload_n 1, 1) := by decide +kernel
theorem dX4_plantRow_14 : decode cX4_plantRow 14 = .ok (.arraylength, 1) := by decide +kernel
theorem dX4_plantRow_15 : decode cX4_plantRow 15 = .ok (.if_icmp .ge 24, 3) := by decide +kernel
theorem dX4_plantRow_18 : decode cX4_plantRow 18 = .ok (.lload_n 3, 1) := by decide +kernel
theorem dX4_plantRow_19 : decode cX4_plantRow 19 = .ok (.iload 5, 2) := by decide +kernel
theorem dX4_plantRow_21 : decode cX4_plantRow 21 = .ok (.aload_n 0, 1) := by decide +kernel
theorem dX4_plantRow_22 : decode cX4_plantRow 22 = .ok (.aload_n 1, 1) := by decide +kernel
theorem dX4_plantRow_23 : decode cX4_plantRow 23 = .ok (.iload 5, 2) := by decide +kernel
theorem dX4_plantRow_25 : decode cX4_plantRow 25 = .ok (.aaload, 1) := by decide +kernel
theorem dX4_plantRow_26 : decode cX4_plantRow 26 = .ok (.invokevirtual 45, 3) := by decide +kernel
theorem dX4_plantRow_29 : decode cX4_plantRow 29 = .ok (.invokestatic 49, 3) := by decide +kernel
theorem dX4_plantRow_32 : decode cX4_plantRow 32 = .ok (.lstore_n 3, 1) := by decide +kernel
theorem dX4_plantRow_33 : decode cX4_plantRow 33 = .ok (.iinc 5 1, 3) := by decide +kernel
theorem dX4_plantRow_36 : decode cX4_plantRow 36 = .ok (.goto (-31), 3) := by decide +kernel
theorem dX4_plantRow_39 : decode cX4_plantRow 39 = .ok (.lload_n 3, 1) := by decide +kernel
theorem dX4_plantRow_40 : decode cX4_plantRow 40 = .ok (.lreturn, 1) := by decide +kernel
theorem dX4_balanceOfRow_0 : decode cX4_balanceOfRow 0 = .ok (.lconst 0, 1) := by decide +kernel
theorem dX4_balanceOfRow_1 : decode cX4_balanceOfRow 1 = .ok (.lstore 4, 2) := by decide +kernel
theorem dX4_balanceOfRow_3 : decode cX4_balanceOfRow 3 = .ok (.iconst 0, 1) := by decide +kernel
theorem dX4_balanceOfRow_4 : decode cX4_balanceOfRow 4 = .ok (.istore 6, 2) := by decide +kernel
theorem dX4_balanceOfRow_6 : decode cX4_balanceOfRow 6 = .ok (.iload 6, 2) := by decide +kernel
theorem dX4_balanceOfRow_8 : decode cX4_balanceOfRow 8 = .ok (.iload_n 3, 1) := by decide +kernel
theorem dX4_balanceOfRow_9 : decode cX4_balanceOfRow 9 = .ok (.if_icmp .ge 35, 3) := by decide +kernel
theorem dX4_balanceOfRow_12 : decode cX4_balanceOfRow 12 = .ok (.iload 6, 2) := by decide +kernel
theorem dX4_balanceOfRow_14 : decode cX4_balanceOfRow 14 = .ok (.bipush 11, 2) := by decide +kernel
theorem dX4_balanceOfRow_16 : decode cX4_balanceOfRow 16 = .ok (.if_icmp .ge 28, 3) := by decide +kernel
theorem dX4_balanceOfRow_19 : decode cX4_balanceOfRow 19 = .ok (.lload 4, 2) := by decide +kernel
theorem dX4_balanceOfRow_21 : decode cX4_balanceOfRow 21 = .ok (.aload_n 0, 1) := by decide +kernel
theorem dX4_balanceOfRow_22 : decode cX4_balanceOfRow 22 = .ok (.getfield 22, 3) := by decide +kernel
theorem dX4_balanceOfRow_25 : decode cX4_balanceOfRow 25 = .ok (.lload_n 1, 1) := by decide +kernel
theorem dX4_balanceOfRow_26 : decode cX4_balanceOfRow 26 = .ok (.iload 6, 2) := by decide +kernel
theorem dX4_balanceOfRow_28 : decode cX4_balanceOfRow 28 = .ok (.invokestatic 55, 3) := by decide +kernel
theorem dX4_balanceOfRow_31 : decode cX4_balanceOfRow 31 = .ok (.bipush 31, 2) := by decide +kernel
theorem dX4_balanceOfRow_33 : decode cX4_balanceOfRow 33 = .ok (.iand, 1) := by decide +kernel
theorem dX4_balanceOfRow_34 : decode cX4_balanceOfRow 34 = .ok (.laload, 1) := by decide +kernel
theorem dX4_balanceOfRow_35 : decode cX4_balanceOfRow 35 = .ok (.ladd, 1) := by decide +kernel
theorem dX4_balanceOfRow_36 : decode cX4_balanceOfRow 36 = .ok (.lstore 4, 2) := by decide +kernel
theorem dX4_balanceOfRow_38 : decode cX4_balanceOfRow 38 = .ok (.iinc 6 1, 3) := by decide +kernel
theorem dX4_balanceOfRow_41 : decode cX4_balanceOfRow 41 = .ok (.goto (-35), 3) := by decide +kernel
theorem dX4_balanceOfRow_44 : decode cX4_balanceOfRow 44 = .ok (.lload 4, 2) := by decide +kernel
theorem dX4_balanceOfRow_46 : decode cX4_balanceOfRow 46 = .ok (.lreturn, 1) := by decide +kernel
theorem dX4_numberOf_0 : decode cX4_numberOf 0 = .ok (.iload_n 2, 1) := by decide +kernel
theorem dX4_numberOf_1 : decode cX4_numberOf 1 = .ok (.bipush 31, 2) := by decide +kernel
theorem dX4_numberOf_3 : decode cX4_numberOf 3 = .ok (.iand, 1) := by decide +kernel
theorem dX4_numberOf_4 : decode cX4_numberOf 4 = .ok (.istore 5, 2) := by decide +kernel
theorem dX4_numberOf_6 : decode cX4_numberOf 6 = .ok (.iconst 1, 1) := by decide +kernel
theorem dX4_numberOf_7 : decode cX4_numberOf 7 = .ok (.istore 6, 2) := by decide +kernel
theorem dX4_numberOf_9 : decode cX4_numberOf 9 = .ok (.iload 6, 2) := by decide +kernel
theorem dX4_numberOf_11 : decode cX4_numberOf 11 = .ok (.aload_n 0, 1) := by decide +kernel
theorem dX4_numberOf_12 : decode cX4_numberOf 12 = .ok (.getfield 31, 3) := by decide +kernel
theorem dX4_numberOf_15 : decode cX4_numberOf 15 = .ok (.if_icmp .gt 59, 3) := by decide +kernel
theorem dX4_numberOf_18 : decode cX4_numberOf 18 = .ok (.iload 6, 2) := by decide +kernel
theorem dX4_numberOf_20 : decode cX4_numberOf 20 = .ok (.bipush 32, 2) := by decide +kernel
theorem dX4_numberOf_22 : decode cX4_numberOf 22 = .ok (.if_icmp .ge 52, 3) := by decide +kernel
theorem dX4_numberOf_25 : decode cX4_numberOf 25 = .ok (.aload_n 0, 1) := by decide +kernel
theorem dX4_numberOf_26 : decode cX4_numberOf 26 = .ok (.getfield 9, 3) := by decide +kernel
theorem dX4_numberOf_29 : decode cX4_numberOf 29 = .ok (.iload 6, 2) := by decide +kernel
theorem dX4_numberOf_31 : decode cX4_numberOf 31 = .ok (.iaload, 1) := by decide +kernel
theorem dX4_numberOf_32 : decode cX4_numberOf 32 = .ok (.aload_n 1, 1) := by decide +kernel
theorem dX4_numberOf_33 : decode cX4_numberOf 33 = .ok (.getfield 38, 3) := by decide +kernel
theorem dX4_numberOf_36 : decode cX4_numberOf 36 = .ok (.iload 5, 2) := by decide +kernel
theorem dX4_numberOf_38 : decode cX4_numberOf 38 = .ok (.iaload, 1) := by decide +kernel
theorem dX4_numberOf_39 : decode cX4_numberOf 39 = .ok (.if_icmp .ne 29, 3) := by decide +kernel
theorem dX4_numberOf_42 : decode cX4_numberOf 42 = .ok (.aload_n 0, 1) := by decide +kernel
theorem dX4_numberOf_43 : decode cX4_numberOf 43 = .ok (.getfield 13, 3) := by decide +kernel
theorem dX4_numberOf_46 : decode cX4_numberOf 46 = .ok (.iload 6, 2) := by decide +kernel
theorem dX4_numberOf_48 : decode cX4_numberOf 48 = .ok (.iaload, 1) := by decide +kernel
theorem dX4_numberOf_49 : decode cX4_numberOf 49 = .ok (.iload_n 3, 1) := by decide +kernel
theorem dX4_numberOf_50 : decode cX4_numberOf 50 = .ok (.if_icmp .ne 18, 3) := by decide +kernel
theorem dX4_numberOf_53 : decode cX4_numberOf 53 = .ok (.aload_n 0, 1) := by decide +kernel
theorem dX4_numberOf_54 : decode cX4_numberOf 54 = .ok (.getfield 16, 3) := by decide +kernel
theorem dX4_numberOf_57 : decode cX4_numberOf 57 = .ok (.iload 6, 2) := by decide +kernel
theorem dX4_numberOf_59 : decode cX4_numberOf 59 = .ok (.iaload, 1) := by decide +kernel
theorem dX4_numberOf_60 : decode cX4_numberOf 60 = .ok (.iload 4, 2) := by decide +kernel
theorem dX4_numberOf_62 : decode cX4_numberOf 62 = .ok (.if_icmp .ne 6, 3) := by decide +kernel
theorem dX4_numberOf_65 : decode cX4_numberOf 65 = .ok (.iload 6, 2) := by decide +kernel
theorem dX4_numberOf_67 : decode cX4_numberOf 67 = .ok (.ireturn, 1) := by decide +kernel
theorem dX4_numberOf_68 : decode cX4_numberOf 68 = .ok (.iinc 6 1, 3) := by decide +kernel
theorem dX4_numberOf_71 : decode cX4_numberOf 71 = .ok (.goto (-62), 3) := by decide +kernel
theorem dX4_numberOf_74 : decode cX4_numberOf 74 = .ok (.aload_n 0, 1) := by decide +kernel
theorem dX4_numberOf_75 : decode cX4_numberOf 75 = .ok (.getfield 31, 3) := by decide +kernel
theorem dX4_numberOf_78 : decode cX4_numberOf 78 = .ok (.iconst 1, 1) := by decide +kernel
theorem dX4_numberOf_79 : decode cX4_numberOf 79 = .ok (.iadd, 1) := by decide +kernel
theorem dX4_numberOf_80 : decode cX4_numberOf 80 = .ok (.istore 6, 2) := by decide +kernel
theorem dX4_numberOf_82 : decode cX4_numberOf 82 = .ok (.iload 6, 2) := by decide +kernel
theorem dX4_numberOf_84 : decode cX4_numberOf 84 = .ok (.iconst 1, 1) := by decide +kernel
theorem dX4_numberOf_85 : decode cX4_numberOf 85 = .ok (.if_icmp .lt 10, 3) := by decide +kernel
theorem dX4_numberOf_88 : decode cX4_numberOf 88 = .ok (.iload 6, 2) := by decide +kernel
theorem dX4_numberOf_90 : decode cX4_numberOf 90 = .ok (.bipush 32, 2) := by decide +kernel
theorem dX4_numberOf_92 : decode cX4_numberOf 92 = .ok (.if_icmp .lt 5, 3) := by decide +kernel
theorem dX4_numberOf_95 : decode cX4_numberOf 95 = .ok (.iconst 0, 1) := by decide +kernel
theorem dX4_numberOf_96 : decode cX4_numberOf 96 = .ok (.ireturn, 1) := by decide +kernel
theorem dX4_numberOf_97 : decode cX4_numberOf 97 = .ok (.aload_n 0, 1) := by decide +kernel
theorem dX4_numberOf_98 : decode cX4_numberOf 98 = .ok (.iload 6, 2) := by decide +kernel
theorem dX4_numberOf_100 : decode cX4_numberOf 100 = .ok (.putfield 31, 3) := by decide +kernel
theorem dX4_numberOf_103 : decode cX4_numberOf 103 = .ok (.aload_n 0, 1) := by decide +kernel
theorem dX4_numberOf_104 : decode cX4_numberOf 104 = .ok (.getfield 9, 3) := by decide +kernel
theorem dX4_numberOf_107 : decode cX4_numberOf 107 = .ok (.iload 6, 2) := by decide +kernel
theorem dX4_numberOf_109 : decode cX4_numberOf 109 = .ok (.aload_n 1, 1) := by decide +kernel
theorem dX4_numberOf_110 : decode cX4_numberOf 110 = .ok (.getfield 38, 3) := by decide +kernel
theorem dX4_numberOf_113 : decode cX4_numberOf 113 = .ok (.iload 5, 2) := by decide +kernel
theorem dX4_numberOf_115 : decode cX4_numberOf 115 = .ok (.iaload, 1) := by decide +kernel
theorem dX4_numberOf_116 : decode cX4_numberOf 116 = .ok (.iastore, 1) := by decide +kernel
theorem dX4_numberOf_117 : decode cX4_numberOf 117 = .ok (.aload_n 0, 1) := by decide +kernel
theorem dX4_numberOf_118 : decode cX4_numberOf 118 = .ok (.getfield 13, 3) := by decide +kernel
theorem dX4_numberOf_121 : decode cX4_numberOf 121 = .ok (.iload 6, 2) := by decide +kernel
theorem dX4_numberOf_123 : decode cX4_numberOf 123 = .ok (.iload_n 3, 1) := by decide +kernel
theorem dX4_numberOf_124 : decode cX4_numberOf 124 = .ok (.iastore, 1) := by decide +kernel
theorem dX4_numberOf_125 : decode cX4_numberOf 125 = .ok (.aload_n 0, 1) := by decide +kernel
theorem dX4_numberOf_126 : decode cX4_numberOf 126 = .ok (.getfield 16, 3) := by decide +kernel
theorem dX4_numberOf_129 : decode cX4_numberOf 129 = .ok (.iload 6, 2) := by decide +kernel
theorem dX4_numberOf_131 : decode cX4_numberOf 131 = .ok (.iload 4, 2) := by decide +kernel
theorem dX4_numberOf_133 : decode cX4_numberOf 133 = .ok (.iastore, 1) := by decide +kernel
theorem dX4_numberOf_134 : decode cX4_numberOf 134 = .ok (.aload_n 0, 1) := by decide +kernel
theorem dX4_numberOf_135 : decode cX4_numberOf 135 = .ok (.getfield 19, 3) := by decide +kernel
theorem dX4_numberOf_138 : decode cX4_numberOf 138 = .ok (.iload 6, 2) := by decide +kernel
theorem dX4_numberOf_140 : decode cX4_numberOf 140 = .ok (.aload_n 1, 1) := by decide +kernel
theorem dX4_numberOf_141 : decode cX4_numberOf 141 = .ok (.getfield 59, 3) := by decide +kernel
theorem dX4_numberOf_144 : decode cX4_numberOf 144 = .ok (.iload 5, 2) := by decide +kernel
theorem dX4_numberOf_146 : decode cX4_numberOf 146 = .ok (.iaload, 1) := by decide +kernel
theorem dX4_numberOf_147 : decode cX4_numberOf 147 = .ok (.iastore, 1) := by decide +kernel
theorem dX4_numberOf_148 : decode cX4_numberOf 148 = .ok (.aload_n 0, 1) := by decide +kernel
theorem dX4_numberOf_149 : decode cX4_numberOf 149 = .ok (.getfield 22, 3) := by decide +kernel
theorem dX4_numberOf_152 : decode cX4_numberOf 152 = .ok (.iload 6, 2) := by decide +kernel
theorem dX4_numberOf_154 : decode cX4_numberOf 154 = .ok (.aload_n 1, 1) := by decide +kernel
theorem dX4_numberOf_155 : decode cX4_numberOf 155 = .ok (.getfield 62, 3) := by decide +kernel
theorem dX4_numberOf_158 : decode cX4_numberOf 158 = .ok (.iload 5, 2) := by decide +kernel
theorem dX4_numberOf_160 : decode cX4_numberOf 160 = .ok (.laload, 1) := by decide +kernel
theorem dX4_numberOf_161 : decode cX4_numberOf 161 = .ok (.lastore, 1) := by decide +kernel
theorem dX4_numberOf_162 : decode cX4_numberOf 162 = .ok (.iload 6, 2) := by decide +kernel
theorem dX4_numberOf_164 : decode cX4_numberOf 164 = .ok (.ireturn, 1) := by decide +kernel
