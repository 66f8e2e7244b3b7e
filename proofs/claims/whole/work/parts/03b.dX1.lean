theorem dX1_init_0 : decode cX1_init 0 = .ok (.aload_n 0, 1) := by decide +kernel
theorem dX1_init_1 : decode cX1_init 1 = .ok (.invokespecial 1, 3) := by decide +kernel
theorem dX1_init_4 : decode cX1_init 4 = .ok (.aload_n 0, 1) := by decide +kernel
theorem dX1_init_5 : decode cX1_init 5 = .ok (.bipush 80, 2) := by decide +kernel
theorem dX1_init_7 : decode cX1_init 7 = .ok (.newarray .int, 2) := by decide +kernel
theorem dX1_init_9 : decode cX1_init 9 = .ok (.putfield 9, 3) := by decide +kernel
theorem dX1_init_12 : decode cX1_init 12 = .ok (.aload_n 0, 1) := by decide +kernel
theorem dX1_init_13 : decode cX1_init 13 = .ok (.iconst 0, 1) := by decide +kernel
theorem dX1_init_14 : decode cX1_init 14 = .ok (.putfield 13, 3) := by decide +kernel
theorem dX1_init_17 : decode cX1_init 17 = .ok (.aload_n 0, 1) := by decide +kernel
theorem dX1_init_18 : decode cX1_init 18 = .ok (.bipush 32, 2) := by decide +kernel
theorem dX1_init_20 : decode cX1_init 20 = .ok (.newarray .int, 2) := by decide +kernel
theorem dX1_init_22 : decode cX1_init 22 = .ok (.putfield 19, 3) := by decide +kernel
theorem dX1_init_25 : decode cX1_init 25 = .ok (.aload_n 0, 1) := by decide +kernel
theorem dX1_init_26 : decode cX1_init 26 = .ok (.bipush 32, 2) := by decide +kernel
theorem dX1_init_28 : decode cX1_init 28 = .ok (.newarray .int, 2) := by decide +kernel
theorem dX1_init_30 : decode cX1_init 30 = .ok (.putfield 22, 3) := by decide +kernel
theorem dX1_init_33 : decode cX1_init 33 = .ok (.aload_n 0, 1) := by decide +kernel
theorem dX1_init_34 : decode cX1_init 34 = .ok (.bipush 32, 2) := by decide +kernel
theorem dX1_init_36 : decode cX1_init 36 = .ok (.newarray .int, 2) := by decide +kernel
theorem dX1_init_38 : decode cX1_init 38 = .ok (.putfield 25, 3) := by decide +kernel
theorem dX1_init_41 : decode cX1_init 41 = .ok (.aload_n 0, 1) := by decide +kernel
theorem dX1_init_42 : decode cX1_init 42 = .ok (.iconst 0, 1) := by decide +kernel
theorem dX1_init_43 : decode cX1_init 43 = .ok (.putfield 28, 3) := by decide +kernel
theorem dX1_init_46 : decode cX1_init 46 = .ok (.aload_n 0, 1) := by decide +kernel
theorem dX1_init_47 : decode cX1_init 47 = .ok (.iconst 0, 1) := by decide +kernel
theorem dX1_init_48 : decode cX1_init 48 = .ok (.putfield 31, 3) := by decide +kernel
theorem dX1_init_51 : decode cX1_init 51 = .ok (.aload_n 0, 1) := by decide +kernel
theorem dX1_init_52 : decode cX1_init 52 = .ok (.bipush 6, 2) := by decide +kernel
theorem dX1_init_54 : decode cX1_init 54 = .ok (.newarray .int, 2) := by decide +kernel
theorem dX1_init_56 : decode cX1_init 56 = .ok (.putfield 34, 3) := by decide +kernel
theorem dX1_init_59 : decode cX1_init 59 = .ok (.aload_n 0, 1) := by decide +kernel
theorem dX1_init_60 : decode cX1_init 60 = .ok (.bipush 6, 2) := by decide +kernel
theorem dX1_init_62 : decode cX1_init 62 = .ok (.newarray .int, 2) := by decide +kernel
theorem dX1_init_64 : decode cX1_init 64 = .ok (.putfield 37, 3) := by decide +kernel
theorem dX1_init_67 : decode cX1_init 67 = .ok (.aload_n 0, 1) := by decide +kernel
theorem dX1_init_68 : decode cX1_init 68 = .ok (.iconst 0, 1) := by decide +kernel
theorem dX1_init_69 : decode cX1_init 69 = .ok (.putfield 40, 3) := by decide +kernel
theorem dX1_init_72 : decode cX1_init 72 = .ok (.aload_n 0, 1) := by decide +kernel
theorem dX1_init_73 : decode cX1_init 73 = .ok (.iconst 1, 1) := by decide +kernel
theorem dX1_init_74 : decode cX1_init 74 = .ok (.putfield 43, 3) := by decide +kernel
theorem dX1_init_77 : decode cX1_init 77 = .ok (.return_, 1) := by decide +kernel
theorem dX1_length_0 : decode cX1_length 0 = .ok (.aload_n 0, 1) := by decide +kernel
theorem dX1_length_1 : decode cX1_length 1 = .ok (.getfield 13, 3) := by decide +kernel
theorem dX1_length_4 : decode cX1_length 4 = .ok (.ireturn, 1) := by decide +kernel
theorem dX1_hasRoomFor_0 : decode cX1_hasRoomFor 0 = .ok (.aload_n 0, 1) := by decide +kernel
theorem dX1_hasRoomFor_1 : decode cX1_hasRoomFor 1 = .ok (.getfield 13, 3) := by decide +kernel
theorem dX1_hasRoomFor_4 : decode cX1_hasRoomFor 4 = .ok (.iload_n 1, 1) := by decide +kernel
theorem dX1_hasRoomFor_5 : decode cX1_hasRoomFor 5 = .ok (.iadd, 1) := by decide +kernel
theorem dX1_hasRoomFor_6 : decode cX1_hasRoomFor 6 = .ok (.bipush 80, 2) := by decide +kernel
theorem dX1_hasRoomFor_8 : decode cX1_hasRoomFor 8 = .ok (.if_icmp .gt 7, 3) := by decide +kernel
theorem dX1_hasRoomFor_11 : decode cX1_hasRoomFor 11 = .ok (.iconst 1, 1) := by decide +kernel
theorem dX1_hasRoomFor_12 : decode cX1_hasRoomFor 12 = .ok (.goto 4, 3) := by decide +kernel
theorem dX1_hasRoomFor_15 : decode cX1_hasRoomFor 15 = .ok (.iconst 0, 1) := by decide +kernel
theorem dX1_hasRoomFor_16 : decode cX1_hasRoomFor 16 = .ok (.ireturn, 1) := by decide +kernel
theorem dX1_append_0 : decode cX1_append 0 = .ok (.aload_n 0, 1) := by decide +kernel
theorem dX1_append_1 : decode cX1_append 1 = .ok (.getfield 13, 3) := by decide +kernel
theorem dX1_append_4 : decode cX1_append 4 = .ok (.ifCond .lt 35, 3) := by decide +kernel
theorem dX1_append_7 : decode cX1_append 7 = .ok (.aload_n 0, 1) := by decide +kernel
theorem dX1_append_8 : decode cX1_append 8 = .ok (.getfield 13, 3) := by decide +kernel
theorem dX1_append_11 : decode cX1_append 11 = .ok (.aload_n 0, 1) := by decide +kernel
theorem dX1_append_12 : decode cX1_append 12 = .ok (.getfield 9, 3) := by decide +kernel
theorem dX1_append_15 : decode cX1_append 15 = .ok (.arraylength, 1) := by decide +kernel
theorem dX1_append_16 : decode cX1_append 16 = .ok (.if_icmp .ge 23, 3) := by decide +kernel
theorem dX1_append_19 : decode cX1_append 19 = .ok (.aload_n 0, 1) := by decide +kernel
theorem dX1_append_20 : decode cX1_append 20 = .ok (.getfield 9, 3) := by decide +kernel
theorem dX1_append_23 : decode cX1_append 23 = .ok (.aload_n 0, 1) := by decide +kernel
theorem dX1_append_24 : decode cX1_append 24 = .ok (.getfield 13, 3) := by decide +kernel
theorem dX1_append_27 : decode cX1_append 27 = .ok (.iload_n 1, 1) := by decide +kernel
theorem dX1_append_28 : decode cX1_append 28 = .ok (.iastore, 1) := by decide +kernel
theorem dX1_append_29 : decode cX1_append 29 = .ok (.aload_n 0, 1) := by decide +kernel
theorem dX1_append_30 : decode cX1_append 30 = .ok (.dup, 1) := by decide +kernel
theorem dX1_append_31 : decode cX1_append 31 = .ok (.getfield 13, 3) := by decide +kernel
theorem dX1_append_34 : decode cX1_append 34 = .ok (.iconst 1, 1) := by decide +kernel
theorem dX1_append_35 : decode cX1_append 35 = .ok (.iadd, 1) := by decide +kernel
theorem dX1_append_36 : decode cX1_append 36 = .ok (.putfield 13, 3) := by decide +kernel
theorem dX1_append_39 : decode cX1_append 39 = .ok (.return_, 1) := by decide +kernel
theorem dX1_empty_0 : decode cX1_empty 0 = .ok (.aload_n 0, 1) := by decide +kernel
theorem dX1_empty_1 : decode cX1_empty 1 = .ok (.getfield 13, 3) := by decide +kernel
theorem dX1_empty_4 : decode cX1_empty 4 = .ok (.istore_n 1, 1) := by decide +kernel
theorem dX1_empty_5 : decode cX1_empty 5 = .ok (.aload_n 0, 1) := by decide +kernel
theorem dX1_empty_6 : decode cX1_empty 6 = .ok (.iconst 0, 1) := by decide +kernel
theorem dX1_empty_7 : decode cX1_empty 7 = .ok (.putfield 13, 3) := by decide +kernel
theorem dX1_empty_10 : decode cX1_empty 10 = .ok (.iload_n 1, 1) := by decide +kernel
theorem dX1_empty_11 : decode cX1_empty 11 = .ok (.ireturn, 1) := by decide +kernel
theorem dX1_findFault_0 : decode cX1_findFault 0 = .ok (.aload_n 0, 1) := by decide +kernel
theorem dX1_findFault_1 : decode cX1_findFault 1 = .ok (.iconst 0, 1) := by decide +kernel
theorem dX1_findFault_2 : decode cX1_findFault 2 = .ok (.putfield 28, 3) := by decide +kernel
theorem dX1_findFault_5 : decode cX1_findFault 5 = .ok (.aload_n 0, 1) := by decide +kernel
theorem dX1_findFault_6 : decode cX1_findFault 6 = .ok (.iconst 0, 1) := by decide +kernel
theorem dX1_findFault_7 : decode cX1_findFault 7 = .ok (.putfield 31, 3) := by decide +kernel
theorem dX1_findFault_10 : decode cX1_findFault 10 = .ok (.aload_n 0, 1) := by decide +kernel
theorem dX1_findFault_11 : decode cX1_findFault 11 = .ok (.iconst 0, 1) := by decide +kernel
theorem dX1_findFault_12 : decode cX1_findFault 12 = .ok (.putfield 40, 3) := by decide +kernel
theorem dX1_findFault_15 : decode cX1_findFault 15 = .ok (.aload_n 0, 1) := by decide +kernel
theorem dX1_findFault_16 : decode cX1_findFault 16 = .ok (.iconst 1, 1) := by decide +kernel
theorem dX1_findFault_17 : decode cX1_findFault 17 = .ok (.putfield 43, 3) := by decide +kernel
theorem dX1_findFault_20 : decode cX1_findFault 20 = .ok (.iconst 0, 1) := by decide +kernel
theorem dX1_findFault_21 : decode cX1_findFault 21 = .ok (.istore_n 1, 1) := by decide +kernel
theorem dX1_findFault_22 : decode cX1_findFault 22 = .ok (.iload_n 1, 1) := by decide +kernel
theorem dX1_findFault_23 : decode cX1_findFault 23 = .ok (.aload_n 0, 1) := by decide +kernel
theorem dX1_findFault_24 : decode cX1_findFault 24 = .ok (.getfield 13, 3) := by decide +kernel
theorem dX1_findFault_27 : decode cX1_findFault 27 = .ok (.if_icmp .ge 55, 3) := by decide +kernel
theorem dX1_findFault_30 : decode cX1_findFault 30 = .ok (.iload_n 1, 1) := by decide +kernel
theorem dX1_findFault_31 : decode cX1_findFault 31 = .ok (.aload_n 0, 1) := by decide +kernel
theorem dX1_findFault_32 : decode cX1_findFault 32 = .ok (.getfield 9, 3) := by decide +kernel
theorem dX1_findFault_35 : decode cX1_findFault 35 = .ok (.arraylength, 1) := by decide +kernel
theorem dX1_findFault_36 : decode cX1_findFault 36 = .ok (.if_icmp .ge 46, 3) := by decide +kernel
theorem dX1_findFault_39 : decode cX1_findFault 39 = .ok (.aload_n 0, 1) := by decide +kernel
theorem dX1_findFault_40 : decode cX1_findFault 40 = .ok (.getfield 43, 3) := by decide +kernel
theorem dX1_findFault_43 : decode cX1_findFault 43 = .ok (.ifCond .eq 16, 3) := by decide +kernel
theorem dX1_findFault_46 : decode cX1_findFault 46 = .ok (.aload_n 0, 1) := by decide +kernel
theorem dX1_findFault_47 : decode cX1_findFault 47 = .ok (.aload_n 0, 1) := by decide +kernel
theorem dX1_findFault_48 : decode cX1_findFault 48 = .ok (.getfield 9, 3) := by decide +kernel
theorem dX1_findFault_51 : decode cX1_findFault 51 = .ok (.iload_n 1, 1) := by decide +kernel
theorem dX1_findFault_52 : decode cX1_findFault 52 = .ok (.iaload, 1) := by decide +kernel
theorem dX1_findFault_53 : decode cX1_findFault 53 = .ok (.invokevirtual 47, 3) := by decide +kernel
theorem dX1_findFault_56 : decode cX1_findFault 56 = .ok (.goto 13, 3) := by decide +kernel
theorem dX1_findFault_59 : decode cX1_findFault 59 = .ok (.aload_n 0, 1) := by decide +kernel
theorem dX1_findFault_60 : decode cX1_findFault 60 = .ok (.aload_n 0, 1) := by decide +kernel
theorem dX1_findFault_61 : decode cX1_findFault 61 = .ok (.getfield 9, 3) := by decide +kernel
theorem dX1_findFault_64 : decode cX1_findFault 64 = .ok (.iload_n 1, 1) := by decide +kernel
theorem dX1_findFault_65 : decode cX1_findFault 65 = .ok (.iaload, 1) := by decide +kernel
theorem dX1_findFault_66 : decode cX1_findFault 66 = .ok (.invokevirtual 51, 3) := by decide +kernel
theorem dX1_findFault_69 : decode cX1_findFault 69 = .ok (.istore_n 2, 1) := by decide +kernel
theorem dX1_findFault_70 : decode cX1_findFault 70 = .ok (.iload_n 2, 1) := by decide +kernel
theorem dX1_findFault_71 : decode cX1_findFault 71 = .ok (.ifCond .ne 5, 3) := by decide +kernel
theorem dX1_findFault_74 : decode cX1_findFault 74 = .ok (.iload_n 1, 1) := by decide +kernel
theorem dX1_findFault_75 : decode cX1_findFault 75 = .ok (.ireturn, 1) := by decide +kernel
theorem dX1_findFault_76 : decode cX1_findFault 76 = .ok (.iinc 1 1, 3) := by decide +kernel
theorem dX1_findFault_79 : decode cX1_findFault 79 = .ok (.goto (-57), 3) := by decide +kernel
theorem dX1_findFault_82 : decode cX1_findFault 82 = .ok (.aload_n 0, 1) := by decide +kernel
theorem dX1_findFault_83 : decode cX1_findFault 83 = .ok (.getfield 43, 3) := by decide +kernel
theorem dX1_findFault_86 : decode cX1_findFault 86 = .ok (.ifCond .ne 10, 3) := by decide +kernel
theorem dX1_findFault_89 : decode cX1_findFault 89 = .ok (.aload_n 0, 1) := by decide +kernel
theorem dX1_findFault_90 : decode cX1_findFault 90 = .ok (.getfield 40, 3) := by decide +kernel
theorem dX1_findFault_93 : decode cX1_findFault 93 = .ok (.ifCond .le 10, 3) := by decide +kernel
theorem dX1_findFault_96 : decode cX1_findFault 96 = .ok (.aload_n 0, 1) := by decide +kernel
theorem dX1_findFault_97 : decode cX1_findFault 97 = .ok (.getfield 13, 3) := by decide +kernel
theorem dX1_findFault_100 : decode cX1_findFault 100 = .ok (.goto 4, 3) := by decide +kernel
theorem dX1_findFault_103 : decode cX1_findFault 103 = .ok (.iconst (-1), 1) := by decide +kernel
theorem dX1_findFault_104 : decode cX1_findFault 104 = .ok (.ireturn, 1) := by decide +kernel
theorem dX1_parsedKind_0 : decode cX1_parsedKind 0 = .ok (.aload_n 0, 1) := by decide +kernel
theorem dX1_parsedKind_1 : decode cX1_parsedKind 1 = .ok (.getfield 19, 3) := by decide +kernel
theorem dX1_parsedKind_4 : decode cX1_parsedKind 4 = .ok (.aload_n 0, 1) := by decide +kernel
theorem dX1_parsedKind_5 : decode cX1_parsedKind 5 = .ok (.getfield 22, 3) := by decide +kernel
theorem dX1_parsedKind_8 : decode cX1_parsedKind 8 = .ok (.aload_n 0, 1) := by decide +kernel
theorem dX1_parsedKind_9 : decode cX1_parsedKind 9 = .ok (.getfield 25, 3) := by decide +kernel
theorem dX1_parsedKind_12 : decode cX1_parsedKind 12 = .ok (.aload_n 0, 1) := by decide +kernel
theorem dX1_parsedKind_13 : decode cX1_parsedKind 13 = .ok (.getfield 28, 3) := by decide +kernel
theorem dX1_parsedKind_16 : decode cX1_parsedKind 16 = .ok (.invokestatic 54, 3) := by decide +kernel
theorem dX1_parsedKind_19 : decode cX1_parsedKind 19 = .ok (.areturn, 1) := by decide +kernel
theorem dX1_startKind_0 : decode cX1_startKind 0 = .ok (.iload_n 1, 1) := by decide +kernel
theorem dX1_startKind_1 : decode cX1_startKind 1 = .ok (.bipush 40, 2) := by decide +kernel
theorem dX1_startKind_3 : decode cX1_startKind 3 = .ok (.if_icmp .ne 46, 3) := by decide +kernel
theorem dX1_startKind_6 : decode cX1_startKind 6 = .ok (.aload_n 0, 1) := by decide +kernel
theorem dX1_startKind_7 : decode cX1_startKind 7 = .ok (.getfield 40, 3) := by decide +kernel
theorem dX1_startKind_10 : decode cX1_startKind 10 = .ok (.ifCond .lt 15, 3) := by decide +kernel
theorem dX1_startKind_13 : decode cX1_startKind 13 = .ok (.aload_n 0, 1) := by decide +kernel
theorem dX1_startKind_14 : decode cX1_startKind 14 = .ok (.getfield 40, 3) := by decide +kernel
theorem dX1_startKind_17 : decode cX1_startKind 17 = .ok (.aload_n 0, 1) := by decide +kernel
theorem dX1_startKind_18 : decode cX1_startKind 18 = .ok (.getfield 34, 3) := by decide +kernel
theorem dX1_startKind_21 : decode cX1_startKind 21 = .ok (.arraylength, 1) := by decide +kernel
theorem dX1_startKind_22 : decode cX1_startKind 22 = .ok (.if_icmp .lt 5, 3) := by decide +kernel
theorem dX1_startKind_25 : decode cX1_startKind 25 = .ok (.iconst 0, 1) := by decide +kernel
theorem dX1_startKind_26 : decode cX1_startKind 26 = .ok (.ireturn, 1) := by decide +kernel
theorem dX1_startKind_27 : decode cX1_startKind 27 = .ok (.aload_n 0, 1) := by decide +kernel
theorem dX1_startKind_28 : decode cX1_startKind 28 = .ok (.getfield 34, 3) := by decide +kernel
theorem dX1_startKind_31 : decode cX1_startKind 31 = .ok (.aload_n 0, 1) := by decide +kernel
theorem dX1_startKind_32 : decode cX1_startKind 32 = .ok (.getfield 40, 3) := by decide +kernel
theorem dX1_startKind_35 : decode cX1_startKind 35 = .ok (.iconst 0, 1) := by decide +kernel
theorem dX1_startKind_36 : decode cX1_startKind 36 = .ok (.iastore, 1) := by decide +kernel
theorem dX1_startKind_37 : decode cX1_startKind 37 = .ok (.aload_n 0, 1) := by decide +kernel
theorem dX1_startKind_38 : decode cX1_startKind 38 = .ok (.dup, 1) := by decide +kernel
theorem dX1_startKind_39 : decode cX1_startKind 39 = .ok (.getfield 40, 3) := by decide +kernel
theorem dX1_startKind_42 : decode cX1_startKind 42 = .ok (.iconst 1, 1) := by decide +kernel
theorem dX1_startKind_43 : decode cX1_startKind 43 = .ok (.iadd, 1) := by decide +kernel
theorem dX1_startKind_44 : decode cX1_startKind 44 = .ok (.putfield 40, 3) := by decide +kernel
theorem dX1_startKind_47 : decode cX1_startKind 47 = .ok (.iconst 1, 1) := by decide +kernel
theorem dX1_startKind_48 : decode cX1_startKind 48 = .ok (.ireturn, 1) := by decide +kernel
theorem dX1_startKind_49 : decode cX1_startKind 49 = .ok (.iload_n 1, 1) := by decide +kernel
theorem dX1_startKind_50 : decode cX1_startKind 50 = .ok (.bipush 97, 2) := by decide +kernel
theorem dX1_startKind_52 : decode cX1_startKind 52 = .ok (.if_icmp .lt 18, 3) := by decide +kernel
theorem dX1_startKind_55 : decode cX1_startKind 55 = .ok (.iload_n 1, 1) := by decide +kernel
theorem dX1_startKind_56 : decode cX1_startKind 56 = .ok (.bipush 105, 2) := by decide +kernel
theorem dX1_startKind_58 : decode cX1_startKind 58 = .ok (.if_icmp .ge 12, 3) := by decide +kernel
theorem dX1_startKind_61 : decode cX1_startKind 61 = .ok (.aload_n 0, 1) := by decide +kernel
theorem dX1_startKind_62 : decode cX1_startKind 62 = .ok (.getfield 31, 3) := by decide +kernel
theorem dX1_startKind_65 : decode cX1_startKind 65 = .ok (.bipush 12, 2) := by decide +kernel
theorem dX1_startKind_67 : decode cX1_startKind 67 = .ok (.if_icmp .lt 5, 3) := by decide +kernel
theorem dX1_startKind_70 : decode cX1_startKind 70 = .ok (.iconst 0, 1) := by decide +kernel
theorem dX1_startKind_71 : decode cX1_startKind 71 = .ok (.ireturn, 1) := by decide +kernel
theorem dX1_startKind_72 : decode cX1_startKind 72 = .ok (.aload_n 0, 1) := by decide +kernel
theorem dX1_startKind_73 : decode cX1_startKind 73 = .ok (.dup, 1) := by decide +kernel
theorem dX1_startKind_74 : decode cX1_startKind 74 = .ok (.getfield 31, 3) := by decide +kernel
theorem dX1_startKind_77 : decode cX1_startKind 77 = .ok (.iconst 1, 1) := by decide +kernel
theorem dX1_startKind_78 : decode cX1_startKind 78 = .ok (.iadd, 1) := by decide +kernel
theorem dX1_startKind_79 : decode cX1_startKind 79 = .ok (.putfield 31, 3) := by decide +kernel
theorem dX1_startKind_82 : decode cX1_startKind 82 = .ok (.aload_n 0, 1) := by decide +kernel
theorem dX1_startKind_83 : decode cX1_startKind 83 = .ok (.iconst 0, 1) := by decide +kernel
theorem dX1_startKind_84 : decode cX1_startKind 84 = .ok (.putfield 43, 3) := by decide +kernel
theorem dX1_startKind_87 : decode cX1_startKind 87 = .ok (.aload_n 0, 1) := by decide +kernel
theorem dX1_startKind_88 : decode cX1_startKind 88 = .ok (.iload_n 1, 1) := by decide +kernel
theorem dX1_startKind_89 : decode cX1_startKind 89 = .ok (.bipush 97, 2) := by decide +kernel
theorem dX1_startKind_91 : decode cX1_startKind 91 = .ok (.isub, 1) := by decide +kernel
theorem dX1_startKind_92 : decode cX1_startKind 92 = .ok (.iconst 0, 1) := by decide +kernel
theorem dX1_startKind_93 : decode cX1_startKind 93 = .ok (.iconst 0, 1) := by decide +kernel
theorem dX1_startKind_94 : decode cX1_startKind 94 = .ok (.invokevirtual 58, 3) := by decide +kernel
theorem dX1_startKind_97 : decode cX1_startKind 97 = .ok (.ireturn, 1) := by decide +kernel
theorem dX1_goOn_0 : decode cX1_goOn 0 = .ok (.aload_n 0, 1) := by decide +kernel
theorem dX1_goOn_1 : decode cX1_goOn 1 = .ok (.getfield 40, 3) := by decide +kernel
theorem dX1_goOn_4 : decode cX1_goOn 4 = .ok (.iconst 1, 1) := by decide +kernel
theorem dX1_goOn_5 : decode cX1_goOn 5 = .ok (.isub, 1) := by decide +kernel
theorem dX1_goOn_6 : decode cX1_goOn 6 = .ok (.istore_n 2, 1) := by decide +kernel
theorem dX1_goOn_7 : decode cX1_goOn 7 = .ok (.iload_n 2, 1) := by decide +kernel
theorem dX1_goOn_8 : decode cX1_goOn 8 = .ok (.ifCond .lt 12, 3) := by decide +kernel
theorem dX1_goOn_11 : decode cX1_goOn 11 = .ok (.iload_n 2, 1) := by decide +kernel
theorem dX1_goOn_12 : decode cX1_goOn 12 = .ok (.aload_n 0, 1) := by decide +kernel
theorem dX1_goOn_13 : decode cX1_goOn 13 = .ok (.getfield 34, 3) := by decide +kernel
theorem dX1_goOn_16 : decode cX1_goOn 16 = .ok (.arraylength, 1) := by decide +kernel
theorem dX1_goOn_17 : decode cX1_goOn 17 = .ok (.if_icmp .lt 5, 3) := by decide +kernel
theorem dX1_goOn_20 : decode cX1_goOn 20 = .ok (.iconst 0, 1) := by decide +kernel
theorem dX1_goOn_21 : decode cX1_goOn 21 = .ok (.ireturn, 1) := by decide +kernel
theorem dX1_goOn_22 : decode cX1_goOn 22 = .ok (.aload_n 0, 1) := by decide +kernel
theorem dX1_goOn_23 : decode cX1_goOn 23 = .ok (.getfield 34, 3) := by decide +kernel
theorem dX1_goOn_26 : decode cX1_goOn 26 = .ok (.iload_n 2, 1) := by decide +kernel
theorem dX1_goOn_27 : decode cX1_goOn 27 = .ok (.iaload, 1) := by decide +kernel
theorem dX1_goOn_28 : decode cX1_goOn 28 = .ok (.ifCond .eq 23, 3) := by decide +kernel
theorem dX1_goOn_31 : decode cX1_goOn 31 = .ok (.iload_n 1, 1) := by decide +kernel
theorem dX1_goOn_32 : decode cX1_goOn 32 = .ok (.bipush 41, 2) := by decide +kernel
theorem dX1_goOn_34 : decode cX1_goOn 34 = .ok (.if_icmp .ne 15, 3) := by decide +kernel
theorem dX1_goOn_37 : decode cX1_goOn 37 = .ok (.aload_n 0, 1) := by decide +kernel
theorem dX1_goOn_38 : decode cX1_goOn 38 = .ok (.iload_n 2, 1) := by decide +kernel
theorem dX1_goOn_39 : decode cX1_goOn 39 = .ok (.invokevirtual 62, 3) := by decide +kernel
theorem dX1_goOn_42 : decode cX1_goOn 42 = .ok (.ifCond .eq 7, 3) := by decide +kernel
theorem dX1_goOn_45 : decode cX1_goOn 45 = .ok (.iconst 1, 1) := by decide +kernel
theorem dX1_goOn_46 : decode cX1_goOn 46 = .ok (.goto 4, 3) := by decide +kernel
theorem dX1_goOn_49 : decode cX1_goOn 49 = .ok (.iconst 0, 1) := by decide +kernel
theorem dX1_goOn_50 : decode cX1_goOn 50 = .ok (.ireturn, 1) := by decide +kernel
theorem dX1_goOn_51 : decode cX1_goOn 51 = .ok (.iload_n 1, 1) := by decide +kernel
theorem dX1_goOn_52 : decode cX1_goOn 52 = .ok (.bipush 47, 2) := by decide +kernel
theorem dX1_goOn_54 : decode cX1_goOn 54 = .ok (.if_icmp .eq 17, 3) := by decide +kernel
theorem dX1_goOn_57 : decode cX1_goOn 57 = .ok (.iload_n 1, 1) := by decide +kernel
theorem dX1_goOn_58 : decode cX1_goOn 58 = .ok (.bipush 92, 2) := by decide +kernel
theorem dX1_goOn_60 : decode cX1_goOn 60 = .ok (.if_icmp .eq 11, 3) := by decide +kernel
theorem dX1_goOn_63 : decode cX1_goOn 63 = .ok (.iload_n 1, 1) := by decide +kernel
theorem dX1_goOn_64 : decode cX1_goOn 64 = .ok (.bipush 42, 2) := by decide +kernel
theorem dX1_goOn_66 : decode cX1_goOn 66 = .ok (.if_icmp .eq 5, 3) := by decide +kernel
theorem dX1_goOn_69 : decode cX1_goOn 69 = .ok (.iconst 0, 1) := by decide +kernel
theorem dX1_goOn_70 : decode cX1_goOn 70 = .ok (.ireturn, 1) := by decide +kernel
theorem dX1_goOn_71 : decode cX1_goOn 71 = .ok (.aload_n 0, 1) := by decide +kernel
theorem dX1_goOn_72 : decode cX1_goOn 72 = .ok (.getfield 34, 3) := by decide +kernel
theorem dX1_goOn_75 : decode cX1_goOn 75 = .ok (.iload_n 2, 1) := by decide +kernel
theorem dX1_goOn_76 : decode cX1_goOn 76 = .ok (.iload_n 1, 1) := by decide +kernel
theorem dX1_goOn_77 : decode cX1_goOn 77 = .ok (.iastore, 1) := by decide +kernel
theorem dX1_goOn_78 : decode cX1_goOn 78 = .ok (.aload_n 0, 1) := by decide +kernel
theorem dX1_goOn_79 : decode cX1_goOn 79 = .ok (.getfield 37, 3) := by decide +kernel
theorem dX1_goOn_82 : decode cX1_goOn 82 = .ok (.iload_n 2, 1) := by decide +kernel
theorem dX1_goOn_83 : decode cX1_goOn 83 = .ok (.aload_n 0, 1) := by decide +kernel
theorem dX1_goOn_84 : decode cX1_goOn 84 = .ok (.getfield 28, 3) := by decide +kernel
theorem dX1_goOn_87 : decode cX1_goOn 87 = .ok (.iconst 1, 1) := by decide +kernel
theorem dX1_goOn_88 : decode cX1_goOn 88 = .ok (.isub, 1) := by decide +kernel
theorem dX1_goOn_89 : decode cX1_goOn 89 = .ok (.iastore, 1) := by decide +kernel
theorem dX1_goOn_90 : decode cX1_goOn 90 = .ok (.aload_n 0, 1) := by decide +kernel
theorem dX1_goOn_91 : decode cX1_goOn 91 = .ok (.iconst 1, 1) := by decide +kernel
theorem dX1_goOn_92 : decode cX1_goOn 92 = .ok (.putfield 43, 3) := by decide +kernel
theorem dX1_goOn_95 : decode cX1_goOn 95 = .ok (.iconst 1, 1) := by decide +kernel
theorem dX1_goOn_96 : decode cX1_goOn 96 = .ok (.ireturn, 1) := by decide +kernel
theorem dX1_close_0 : decode cX1_close 0 = .ok (.iload_n 1, 1) := by decide +kernel
theorem dX1_close_1 : decode cX1_close 1 = .ok (.ifCond .lt 12, 3) := by decide +kernel
theorem dX1_close_4 : decode cX1_close 4 = .ok (.iload_n 1, 1) := by decide +kernel
theorem dX1_close_5 : decode cX1_close 5 = .ok (.aload_n 0, 1) := by decide +kernel
theorem dX1_close_6 : decode cX1_close 6 = .ok (.getfield 34, 3) := by decide +kernel
theorem dX1_close_9 : decode cX1_close 9 = .ok (.arraylength, 1) := by decide +kernel
theorem dX1_close_10 : decode cX1_close 10 = .ok (.if_icmp .lt 5, 3) := by decide +kernel
theorem dX1_close_13 : decode cX1_close 13 = .ok (.iconst 0, 1) := by decide +kernel
theorem dX1_close_14 : decode cX1_close 14 = .ok (.ireturn, 1) := by decide +kernel
theorem dX1_close_15 : decode cX1_close 15 = .ok (.aload_n 0, 1) := by decide +kernel
theorem dX1_close_16 : decode cX1_close 16 = .ok (.getfield 37, 3) := by decide +kernel
theorem dX1_close_19 : decode cX1_close 19 = .ok (.iload_n 1, 1) := by decide +kernel
theorem dX1_close_20 : decode cX1_close 20 = .ok (.iaload, 1) := by decide +kernel
theorem dX1_close_21 : decode cX1_close 21 = .ok (.istore_n 2, 1) := by decide +kernel
theorem dX1_close_22 : decode cX1_close 22 = .ok (.aload_n 0, 1) := by decide +kernel
theorem dX1_close_23 : decode cX1_close 23 = .ok (.getfield 28, 3) := by decide +kernel
theorem dX1_close_26 : decode cX1_close 26 = .ok (.iconst 1, 1) := by decide +kernel
theorem dX1_close_27 : decode cX1_close 27 = .ok (.isub, 1) := by decide +kernel
theorem dX1_close_28 : decode cX1_close 28 = .ok (.istore_n 3, 1) := by decide +kernel
theorem dX1_close_29 : decode cX1_close 29 = .ok (.aload_n 0, 1) := by decide +kernel
theorem dX1_close_30 : decode cX1_close 30 = .ok (.iload_n 1, 1) := by decide +kernel
theorem dX1_close_31 : decode cX1_close 31 = .ok (.putfield 40, 3) := by decide +kernel
theorem dX1_close_34 : decode cX1_close 34 = .ok (.aload_n 0, 1) := by decide +kernel
theorem dX1_close_35 : decode cX1_close 35 = .ok (.getfield 34, 3) := by decide +kernel
theorem dX1_close_38 : decode cX1_close 38 = .ok (.iload_n 1, 1) := by decide +kernel
theorem dX1_close_39 : decode cX1_close 39 = .ok (.iaload, 1) := by decide +kernel
theorem dX1_close_40 : decode cX1_close 40 = .ok (.lookupswitch 46 #[(47, 28), (92, 37)], 28) := by decide +kernel
theorem dX1_close_68 : decode cX1_close 68 = .ok (.aload_n 0, 1) := by decide +kernel
theorem dX1_close_69 : decode cX1_close 69 = .ok (.bipush 8, 2) := by decide +kernel
theorem dX1_close_71 : decode cX1_close 71 = .ok (.iload_n 2, 1) := by decide +kernel
theorem dX1_close_72 : decode cX1_close 72 = .ok (.iload_n 3, 1) := by decide +kernel
theorem dX1_close_73 : decode cX1_close 73 = .ok (.invokevirtual 58, 3) := by decide +kernel
theorem dX1_close_76 : decode cX1_close 76 = .ok (.ireturn, 1) := by decide +kernel
theorem dX1_close_77 : decode cX1_close 77 = .ok (.aload_n 0, 1) := by decide +kernel
theorem dX1_close_78 : decode cX1_close 78 = .ok (.bipush 9, 2) := by decide +kernel
theorem dX1_close_80 : decode cX1_close 80 = .ok (.iload_n 3, 1) := by decide +kernel
theorem dX1_close_81 : decode cX1_close 81 = .ok (.iload_n 2, 1) := by decide +kernel
theorem dX1_close_82 : decode cX1_close 82 = .ok (.invokevirtual 58, 3) := by decide +kernel
theorem dX1_close_85 : decode cX1_close 85 = .ok (.ireturn, 1) := by decide +kernel
theorem dX1_close_86 : decode cX1_close 86 = .ok (.aload_n 0, 1) := by decide +kernel
theorem dX1_close_87 : decode cX1_close 87 = .ok (.bipush 10, 2) := by decide +kernel
theorem dX1_close_89 : decode cX1_close 89 = .ok (.iload_n 2, 1) := by decide +kernel
theorem dX1_close_90 : decode cX1_close 90 = .ok (.iload_n 3, 1) := by decide +kernel
theorem dX1_close_91 : decode cX1_close 91 = .ok (.invokevirtual 58, 3) := by decide +kernel
theorem dX1_close_94 : decode cX1_close 94 = .ok (.ireturn, 1) := by decide +kernel
theorem dX1_appendNode_0 : decode cX1_appendNode 0 = .ok (.aload_n 0, 1) := by decide +kernel
theorem dX1_appendNode_1 : decode cX1_appendNode 1 = .ok (.getfield 28, 3) := by decide +kernel
theorem dX1_appendNode_4 : decode cX1_appendNode 4 = .ok (.ifCond .lt 12, 3) := by decide +kernel
theorem dX1_appendNode_7 : decode cX1_appendNode 7 = .ok (.aload_n 0, 1) := by decide +kernel
theorem dX1_appendNode_8 : decode cX1_appendNode 8 = .ok (.getfield 28, 3) := by decide +kernel
theorem dX1_appendNode_11 : decode cX1_appendNode 11 = .ok (.bipush 32, 2) := by decide +kernel
theorem dX1_appendNode_13 : decode cX1_appendNode 13 = .ok (.if_icmp .lt 5, 3) := by decide +kernel
theorem dX1_appendNode_16 : decode cX1_appendNode 16 = .ok (.iconst 0, 1) := by decide +kernel
theorem dX1_appendNode_17 : decode cX1_appendNode 17 = .ok (.ireturn, 1) := by decide +kernel
theorem dX1_appendNode_18 : decode cX1_appendNode 18 = .ok (.aload_n 0, 1) := by decide +kernel
theorem dX1_appendNode_19 : decode cX1_appendNode 19 = .ok (.getfield 19, 3) := by decide +kernel
theorem dX1_appendNode_22 : decode cX1_appendNode 22 = .ok (.aload_n 0, 1) := by decide +kernel
theorem dX1_appendNode_23 : decode cX1_appendNode 23 = .ok (.getfield 28, 3) := by decide +kernel
theorem dX1_appendNode_26 : decode cX1_appendNode 26 = .ok (.iload_n 1, 1) := by decide +kernel
theorem dX1_appendNode_27 : decode cX1_appendNode 27 = .ok (.iastore, 1) := by decide +kernel
theorem dX1_appendNode_28 : decode cX1_appendNode 28 = .ok (.aload_n 0, 1) := by decide +kernel
theorem dX1_appendNode_29 : decode cX1_appendNode 29 = .ok (.getfield 22, 3) := by decide +kernel
theorem dX1_appendNode_32 : decode cX1_appendNode 32 = .ok (.aload_n 0, 1) := by decide +kernel
theorem dX1_appendNode_33 : decode cX1_appendNode 33 = .ok (.getfield 28, 3) := by decide +kernel
theorem dX1_appendNode_36 : decode cX1_appendNode 36 = .ok (.iload_n 2, 1) := by decide +kernel
theorem dX1_appendNode_37 : decode cX1_appendNode 37 = .ok (.iastore, 1) := by decide +kernel
theorem dX1_appendNode_38 : decode cX1_appendNode 38 = .ok (.aload_n 0, 1) := by decide +kernel
theorem dX1_appendNode_39 : decode cX1_appendNode 39 = .ok (.getfield 25, 3) := by decide +kernel
theorem dX1_appendNode_42 : decode cX1_appendNode 42 = .ok (.aload_n 0, 1) := by decide +kernel
theorem dX1_appendNode_43 : decode cX1_appendNode 43 = .ok (.getfield 28, 3) := by decide +kernel
theorem dX1_appendNode_46 : decode cX1_appendNode 46 = .ok (.iload_n 3, 1) := by decide +kernel
theorem dX1_appendNode_47 : decode cX1_appendNode 47 = .ok (.iastore, 1) := by decide +kernel
theorem dX1_appendNode_48 : decode cX1_appendNode 48 = .ok (.aload_n 0, 1) := by decide +kernel
theorem dX1_appendNode_49 : decode cX1_appendNode 49 = .ok (.dup, 1) := by decide +kernel
theorem dX1_appendNode_50 : decode cX1_appendNode 50 = .ok (.getfield 28, 3) := by decide +kernel
theorem dX1_appendNode_53 : decode cX1_appendNode 53 = .ok (.iconst 1, 1) := by decide +kernel
theorem dX1_appendNode_54 : decode cX1_appendNode 54 = .ok (.iadd, 1) := by decide +kernel
theorem dX1_appendNode_55 : decode cX1_appendNode 55 = .ok (.putfield 28, 3) := by decide +kernel
theorem dX1_appendNode_58 : decode cX1_appendNode 58 = .ok (.iconst 1, 1) := by decide +kernel
theorem dX1_appendNode_59 : decode cX1_appendNode 59 = .ok (.ireturn, 1) := by decide +kernel
