theorem dX3_init_0 : decode cX3_init 0 = .ok (.aload_n 0, 1) := by decide +kernel
theorem dX3_init_1 : decode cX3_init 1 = .ok (.invokespecial 1, 3) := by decide +kernel
theorem dX3_init_4 : decode cX3_init 4 = .ok (.aload_n 0, 1) := by decide +kernel
theorem dX3_init_5 : decode cX3_init 5 = .ok (.sipush 1024, 3) := by decide +kernel
theorem dX3_init_8 : decode cX3_init 8 = .ok (.newarray .long, 2) := by decide +kernel
theorem dX3_init_10 : decode cX3_init 10 = .ok (.putfield 9, 3) := by decide +kernel
theorem dX3_init_13 : decode cX3_init 13 = .ok (.aload_n 0, 1) := by decide +kernel
theorem dX3_init_14 : decode cX3_init 14 = .ok (.sipush 1024, 3) := by decide +kernel
theorem dX3_init_17 : decode cX3_init 17 = .ok (.newarray .int, 2) := by decide +kernel
theorem dX3_init_19 : decode cX3_init 19 = .ok (.putfield 13, 3) := by decide +kernel
theorem dX3_init_22 : decode cX3_init 22 = .ok (.aload_n 0, 1) := by decide +kernel
theorem dX3_init_23 : decode cX3_init 23 = .ok (.sipush 1024, 3) := by decide +kernel
theorem dX3_init_26 : decode cX3_init 26 = .ok (.newarray .int, 2) := by decide +kernel
theorem dX3_init_28 : decode cX3_init 28 = .ok (.putfield 17, 3) := by decide +kernel
theorem dX3_init_31 : decode cX3_init 31 = .ok (.aload_n 0, 1) := by decide +kernel
theorem dX3_init_32 : decode cX3_init 32 = .ok (.iconst 0, 1) := by decide +kernel
theorem dX3_init_33 : decode cX3_init 33 = .ok (.putfield 20, 3) := by decide +kernel
theorem dX3_init_36 : decode cX3_init 36 = .ok (.return_, 1) := by decide +kernel
theorem dX3_forget_0 : decode cX3_forget 0 = .ok (.aload_n 0, 1) := by decide +kernel
theorem dX3_forget_1 : decode cX3_forget 1 = .ok (.dup, 1) := by decide +kernel
theorem dX3_forget_2 : decode cX3_forget 2 = .ok (.getfield 20, 3) := by decide +kernel
theorem dX3_forget_5 : decode cX3_forget 5 = .ok (.iconst 1, 1) := by decide +kernel
theorem dX3_forget_6 : decode cX3_forget 6 = .ok (.iadd, 1) := by decide +kernel
theorem dX3_forget_7 : decode cX3_forget 7 = .ok (.putfield 20, 3) := by decide +kernel
theorem dX3_forget_10 : decode cX3_forget 10 = .ok (.return_, 1) := by decide +kernel
theorem dX3_find_0 : decode cX3_find 0 = .ok (.lload_n 1, 1) := by decide +kernel
theorem dX3_find_1 : decode cX3_find 1 = .ok (.invokestatic 24, 3) := by decide +kernel
theorem dX3_find_4 : decode cX3_find 4 = .ok (.istore_n 3, 1) := by decide +kernel
theorem dX3_find_5 : decode cX3_find 5 = .ok (.iconst 0, 1) := by decide +kernel
theorem dX3_find_6 : decode cX3_find 6 = .ok (.istore 4, 2) := by decide +kernel
theorem dX3_find_8 : decode cX3_find 8 = .ok (.iload 4, 2) := by decide +kernel
theorem dX3_find_10 : decode cX3_find 10 = .ok (.bipush 32, 2) := by decide +kernel
theorem dX3_find_12 : decode cX3_find 12 = .ok (.if_icmp .ge 55, 3) := by decide +kernel
theorem dX3_find_15 : decode cX3_find 15 = .ok (.iload_n 3, 1) := by decide +kernel
theorem dX3_find_16 : decode cX3_find 16 = .ok (.iload 4, 2) := by decide +kernel
theorem dX3_find_18 : decode cX3_find 18 = .ok (.iadd, 1) := by decide +kernel
theorem dX3_find_19 : decode cX3_find 19 = .ok (.sipush 1023, 3) := by decide +kernel
theorem dX3_find_22 : decode cX3_find 22 = .ok (.iand, 1) := by decide +kernel
theorem dX3_find_23 : decode cX3_find 23 = .ok (.istore 5, 2) := by decide +kernel
theorem dX3_find_25 : decode cX3_find 25 = .ok (.aload_n 0, 1) := by decide +kernel
theorem dX3_find_26 : decode cX3_find 26 = .ok (.getfield 17, 3) := by decide +kernel
theorem dX3_find_29 : decode cX3_find 29 = .ok (.iload 5, 2) := by decide +kernel
theorem dX3_find_31 : decode cX3_find 31 = .ok (.iaload, 1) := by decide +kernel
theorem dX3_find_32 : decode cX3_find 32 = .ok (.aload_n 0, 1) := by decide +kernel
theorem dX3_find_33 : decode cX3_find 33 = .ok (.getfield 20, 3) := by decide +kernel
theorem dX3_find_36 : decode cX3_find 36 = .ok (.if_icmp .eq 5, 3) := by decide +kernel
theorem dX3_find_39 : decode cX3_find 39 = .ok (.iconst (-1), 1) := by decide +kernel
theorem dX3_find_40 : decode cX3_find 40 = .ok (.ireturn, 1) := by decide +kernel
theorem dX3_find_41 : decode cX3_find 41 = .ok (.aload_n 0, 1) := by decide +kernel
theorem dX3_find_42 : decode cX3_find 42 = .ok (.getfield 9, 3) := by decide +kernel
theorem dX3_find_45 : decode cX3_find 45 = .ok (.iload 5, 2) := by decide +kernel
theorem dX3_find_47 : decode cX3_find 47 = .ok (.laload, 1) := by decide +kernel
theorem dX3_find_48 : decode cX3_find 48 = .ok (.lload_n 1, 1) := by decide +kernel
theorem dX3_find_49 : decode cX3_find 49 = .ok (.lcmp, 1) := by decide +kernel
theorem dX3_find_50 : decode cX3_find 50 = .ok (.ifCond .ne 11, 3) := by decide +kernel
theorem dX3_find_53 : decode cX3_find 53 = .ok (.aload_n 0, 1) := by decide +kernel
theorem dX3_find_54 : decode cX3_find 54 = .ok (.getfield 13, 3) := by decide +kernel
theorem dX3_find_57 : decode cX3_find 57 = .ok (.iload 5, 2) := by decide +kernel
theorem dX3_find_59 : decode cX3_find 59 = .ok (.iaload, 1) := by decide +kernel
theorem dX3_find_60 : decode cX3_find 60 = .ok (.ireturn, 1) := by decide +kernel
theorem dX3_find_61 : decode cX3_find 61 = .ok (.iinc 4 1, 3) := by decide +kernel
theorem dX3_find_64 : decode cX3_find 64 = .ok (.goto (-56), 3) := by decide +kernel
theorem dX3_find_67 : decode cX3_find 67 = .ok (.iconst (-1), 1) := by decide +kernel
theorem dX3_find_68 : decode cX3_find 68 = .ok (.ireturn, 1) := by decide +kernel
theorem dX3_keep_0 : decode cX3_keep 0 = .ok (.lload_n 1, 1) := by decide +kernel
theorem dX3_keep_1 : decode cX3_keep 1 = .ok (.invokestatic 24, 3) := by decide +kernel
theorem dX3_keep_4 : decode cX3_keep 4 = .ok (.istore 4, 2) := by decide +kernel
theorem dX3_keep_6 : decode cX3_keep 6 = .ok (.iconst 0, 1) := by decide +kernel
theorem dX3_keep_7 : decode cX3_keep 7 = .ok (.istore 5, 2) := by decide +kernel
theorem dX3_keep_9 : decode cX3_keep 9 = .ok (.iload 5, 2) := by decide +kernel
theorem dX3_keep_11 : decode cX3_keep 11 = .ok (.bipush 32, 2) := by decide +kernel
theorem dX3_keep_13 : decode cX3_keep 13 = .ok (.if_icmp .ge 62, 3) := by decide +kernel
theorem dX3_keep_16 : decode cX3_keep 16 = .ok (.iload 4, 2) := by decide +kernel
theorem dX3_keep_18 : decode cX3_keep 18 = .ok (.iload 5, 2) := by decide +kernel
theorem dX3_keep_20 : decode cX3_keep 20 = .ok (.iadd, 1) := by decide +kernel
theorem dX3_keep_21 : decode cX3_keep 21 = .ok (.sipush 1023, 3) := by decide +kernel
theorem dX3_keep_24 : decode cX3_keep 24 = .ok (.iand, 1) := by decide +kernel
theorem dX3_keep_25 : decode cX3_keep 25 = .ok (.istore 6, 2) := by decide +kernel
theorem dX3_keep_27 : decode cX3_keep 27 = .ok (.aload_n 0, 1) := by decide +kernel
theorem dX3_keep_28 : decode cX3_keep 28 = .ok (.getfield 17, 3) := by decide +kernel
theorem dX3_keep_31 : decode cX3_keep 31 = .ok (.iload 6, 2) := by decide +kernel
theorem dX3_keep_33 : decode cX3_keep 33 = .ok (.iaload, 1) := by decide +kernel
theorem dX3_keep_34 : decode cX3_keep 34 = .ok (.aload_n 0, 1) := by decide +kernel
theorem dX3_keep_35 : decode cX3_keep 35 = .ok (.getfield 20, 3) := by decide +kernel
theorem dX3_keep_38 : decode cX3_keep 38 = .ok (.if_icmp .eq 31, 3) := by decide +kernel
theorem dX3_keep_41 : decode cX3_keep 41 = .ok (.aload_n 0, 1) := by decide +kernel
theorem dX3_keep_42 : decode cX3_keep 42 = .ok (.getfield 17, 3) := by decide +kernel
theorem dX3_keep_45 : decode cX3_keep 45 = .ok (.iload 6, 2) := by decide +kernel
theorem dX3_keep_47 : decode cX3_keep 47 = .ok (.aload_n 0, 1) := by decide +kernel
theorem dX3_keep_48 : decode cX3_keep 48 = .ok (.getfield 20, 3) := by decide +kernel
theorem dX3_keep_51 : decode cX3_keep 51 = .ok (.iastore, 1) := by decide +kernel
theorem dX3_keep_52 : decode cX3_keep 52 = .ok (.aload_n 0, 1) := by decide +kernel
theorem dX3_keep_53 : decode cX3_keep 53 = .ok (.getfield 9, 3) := by decide +kernel
theorem dX3_keep_56 : decode cX3_keep 56 = .ok (.iload 6, 2) := by decide +kernel
theorem dX3_keep_58 : decode cX3_keep 58 = .ok (.lload_n 1, 1) := by decide +kernel
theorem dX3_keep_59 : decode cX3_keep 59 = .ok (.lastore, 1) := by decide +kernel
theorem dX3_keep_60 : decode cX3_keep 60 = .ok (.aload_n 0, 1) := by decide +kernel
theorem dX3_keep_61 : decode cX3_keep 61 = .ok (.getfield 13, 3) := by decide +kernel
theorem dX3_keep_64 : decode cX3_keep 64 = .ok (.iload 6, 2) := by decide +kernel
theorem dX3_keep_66 : decode cX3_keep 66 = .ok (.iload_n 3, 1) := by decide +kernel
theorem dX3_keep_67 : decode cX3_keep 67 = .ok (.iastore, 1) := by decide +kernel
theorem dX3_keep_68 : decode cX3_keep 68 = .ok (.return_, 1) := by decide +kernel
theorem dX3_keep_69 : decode cX3_keep 69 = .ok (.iinc 5 1, 3) := by decide +kernel
theorem dX3_keep_72 : decode cX3_keep 72 = .ok (.goto (-63), 3) := by decide +kernel
theorem dX3_keep_75 : decode cX3_keep 75 = .ok (.return_, 1) := by decide +kernel
theorem dX3_slotOf_0 : decode cX3_slotOf 0 = .ok (.lload_n 0, 1) := by decide +kernel
theorem dX3_slotOf_1 : decode cX3_slotOf 1 = .ok (.ldc2_w 28, 3) := by decide +kernel
theorem dX3_slotOf_4 : decode cX3_slotOf 4 = .ok (.lmul, 1) := by decide +kernel
theorem dX3_slotOf_5 : decode cX3_slotOf 5 = .ok (.lstore_n 2, 1) := by decide +kernel
theorem dX3_slotOf_6 : decode cX3_slotOf 6 = .ok (.lload_n 2, 1) := by decide +kernel
theorem dX3_slotOf_7 : decode cX3_slotOf 7 = .ok (.bipush 40, 2) := by decide +kernel
theorem dX3_slotOf_9 : decode cX3_slotOf 9 = .ok (.lushr, 1) := by decide +kernel
theorem dX3_slotOf_10 : decode cX3_slotOf 10 = .ok (.l2i, 1) := by decide +kernel
theorem dX3_slotOf_11 : decode cX3_slotOf 11 = .ok (.sipush 1023, 3) := by decide +kernel
theorem dX3_slotOf_14 : decode cX3_slotOf 14 = .ok (.iand, 1) := by decide +kernel
theorem dX3_slotOf_15 : decode cX3_slotOf 15 = .ok (.ireturn, 1) := by decide +kernel
