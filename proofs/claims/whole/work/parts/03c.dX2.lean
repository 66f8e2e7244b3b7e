theorem dX2_init_0 : decode cX2_init 0 = .ok (.aload_n 0, 1) := by decide +kernel
theorem dX2_init_1 : decode cX2_init 1 = .ok (.invokespecial 3, 3) := by decide +kernel
theorem dX2_init_4 : decode cX2_init 4 = .ok (.aload_n 0, 1) := by decide +kernel
theorem dX2_init_5 : decode cX2_init 5 = .ok (.iconst 1, 1) := by decide +kernel
theorem dX2_init_6 : decode cX2_init 6 = .ok (.putfield 9, 3) := by decide +kernel
theorem dX2_init_9 : decode cX2_init 9 = .ok (.aload_n 0, 1) := by decide +kernel
theorem dX2_init_10 : decode cX2_init 10 = .ok (.aload_n 1, 1) := by decide +kernel
theorem dX2_init_11 : decode cX2_init 11 = .ok (.putfield 15, 3) := by decide +kernel
theorem dX2_init_14 : decode cX2_init 14 = .ok (.aload_n 0, 1) := by decide +kernel
theorem dX2_init_15 : decode cX2_init 15 = .ok (.aload_n 2, 1) := by decide +kernel
theorem dX2_init_16 : decode cX2_init 16 = .ok (.putfield 19, 3) := by decide +kernel
theorem dX2_init_19 : decode cX2_init 19 = .ok (.return_, 1) := by decide +kernel
theorem dX2_allows_0 : decode cX2_allows 0 = .ok (.aload_n 2, 1) := by decide +kernel
theorem dX2_allows_1 : decode cX2_allows 1 = .ok (.invokevirtual 23, 3) := by decide +kernel
theorem dX2_allows_4 : decode cX2_allows 4 = .ok (.istore_n 3, 1) := by decide +kernel
theorem dX2_allows_5 : decode cX2_allows 5 = .ok (.iconst 0, 1) := by decide +kernel
theorem dX2_allows_6 : decode cX2_allows 6 = .ok (.istore 4, 2) := by decide +kernel
theorem dX2_allows_8 : decode cX2_allows 8 = .ok (.iload 4, 2) := by decide +kernel
theorem dX2_allows_10 : decode cX2_allows 10 = .ok (.iload_n 1, 1) := by decide +kernel
theorem dX2_allows_11 : decode cX2_allows 11 = .ok (.if_icmp .ge 36, 3) := by decide +kernel
theorem dX2_allows_14 : decode cX2_allows 14 = .ok (.iload 4, 2) := by decide +kernel
theorem dX2_allows_16 : decode cX2_allows 16 = .ok (.aload_n 0, 1) := by decide +kernel
theorem dX2_allows_17 : decode cX2_allows 17 = .ok (.arraylength, 1) := by decide +kernel
theorem dX2_allows_18 : decode cX2_allows 18 = .ok (.if_icmp .ge 29, 3) := by decide +kernel
theorem dX2_allows_21 : decode cX2_allows 21 = .ok (.iload_n 3, 1) := by decide +kernel
theorem dX2_allows_22 : decode cX2_allows 22 = .ok (.ifCond .ne 13, 3) := by decide +kernel
theorem dX2_allows_25 : decode cX2_allows 25 = .ok (.aload_n 0, 1) := by decide +kernel
theorem dX2_allows_26 : decode cX2_allows 26 = .ok (.iload 4, 2) := by decide +kernel
theorem dX2_allows_28 : decode cX2_allows 28 = .ok (.aaload, 1) := by decide +kernel
theorem dX2_allows_29 : decode cX2_allows 29 = .ok (.invokevirtual 23, 3) := by decide +kernel
theorem dX2_allows_32 : decode cX2_allows 32 = .ok (.ifCond .eq 7, 3) := by decide +kernel
theorem dX2_allows_35 : decode cX2_allows 35 = .ok (.iconst 1, 1) := by decide +kernel
theorem dX2_allows_36 : decode cX2_allows 36 = .ok (.goto 4, 3) := by decide +kernel
theorem dX2_allows_39 : decode cX2_allows 39 = .ok (.iconst 0, 1) := by decide +kernel
theorem dX2_allows_40 : decode cX2_allows 40 = .ok (.istore_n 3, 1) := by decide +kernel
theorem dX2_allows_41 : decode cX2_allows 41 = .ok (.iinc 4 1, 3) := by decide +kernel
theorem dX2_allows_44 : decode cX2_allows 44 = .ok (.goto (-36), 3) := by decide +kernel
theorem dX2_allows_47 : decode cX2_allows 47 = .ok (.iload_n 3, 1) := by decide +kernel
theorem dX2_allows_48 : decode cX2_allows 48 = .ok (.ifCond .ne 22, 3) := by decide +kernel
theorem dX2_allows_51 : decode cX2_allows 51 = .ok (.aload_n 0, 1) := by decide +kernel
theorem dX2_allows_52 : decode cX2_allows 52 = .ok (.iload_n 1, 1) := by decide +kernel
theorem dX2_allows_53 : decode cX2_allows 53 = .ok (.invokestatic 29, 3) := by decide +kernel
theorem dX2_allows_56 : decode cX2_allows 56 = .ok (.aload_n 2, 1) := by decide +kernel
theorem dX2_allows_57 : decode cX2_allows 57 = .ok (.getfield 33, 3) := by decide +kernel
theorem dX2_allows_60 : decode cX2_allows 60 = .ok (.iadd, 1) := by decide +kernel
theorem dX2_allows_61 : decode cX2_allows 61 = .ok (.bipush 16, 2) := by decide +kernel
theorem dX2_allows_63 : decode cX2_allows 63 = .ok (.if_icmp .gt 7, 3) := by decide +kernel
theorem dX2_allows_66 : decode cX2_allows 66 = .ok (.iconst 1, 1) := by decide +kernel
theorem dX2_allows_67 : decode cX2_allows 67 = .ok (.goto 4, 3) := by decide +kernel
theorem dX2_allows_70 : decode cX2_allows 70 = .ok (.iconst 0, 1) := by decide +kernel
theorem dX2_allows_71 : decode cX2_allows 71 = .ok (.ireturn, 1) := by decide +kernel
theorem dX2_countOfMeanings_0 : decode cX2_countOfMeanings 0 = .ok (.aload_n 1, 1) := by decide +kernel
theorem dX2_countOfMeanings_1 : decode cX2_countOfMeanings 1 = .ok (.iload_n 2, 1) := by decide +kernel
theorem dX2_countOfMeanings_2 : decode cX2_countOfMeanings 2 = .ok (.aload_n 3, 1) := by decide +kernel
theorem dX2_countOfMeanings_3 : decode cX2_countOfMeanings 3 = .ok (.invokestatic 37, 3) := by decide +kernel
theorem dX2_countOfMeanings_6 : decode cX2_countOfMeanings 6 = .ok (.ifCond .eq 12, 3) := by decide +kernel
theorem dX2_countOfMeanings_9 : decode cX2_countOfMeanings 9 = .ok (.aload_n 1, 1) := by decide +kernel
theorem dX2_countOfMeanings_10 : decode cX2_countOfMeanings 10 = .ok (.iload_n 2, 1) := by decide +kernel
theorem dX2_countOfMeanings_11 : decode cX2_countOfMeanings 11 = .ok (.aload_n 3, 1) := by decide +kernel
theorem dX2_countOfMeanings_12 : decode cX2_countOfMeanings 12 = .ok (.invokestatic 41, 3) := by decide +kernel
theorem dX2_countOfMeanings_15 : decode cX2_countOfMeanings 15 = .ok (.ifCond .ne 5, 3) := by decide +kernel
theorem dX2_countOfMeanings_18 : decode cX2_countOfMeanings 18 = .ok (.iconst 0, 1) := by decide +kernel
theorem dX2_countOfMeanings_19 : decode cX2_countOfMeanings 19 = .ok (.ireturn, 1) := by decide +kernel
theorem dX2_countOfMeanings_20 : decode cX2_countOfMeanings 20 = .ok (.aload_n 0, 1) := by decide +kernel
theorem dX2_countOfMeanings_21 : decode cX2_countOfMeanings 21 = .ok (.aload_n 3, 1) := by decide +kernel
theorem dX2_countOfMeanings_22 : decode cX2_countOfMeanings 22 = .ok (.iload 4, 2) := by decide +kernel
theorem dX2_countOfMeanings_24 : decode cX2_countOfMeanings 24 = .ok (.invokevirtual 44, 3) := by decide +kernel
theorem dX2_countOfMeanings_27 : decode cX2_countOfMeanings 27 = .ok (.istore 5, 2) := by decide +kernel
theorem dX2_countOfMeanings_29 : decode cX2_countOfMeanings 29 = .ok (.aload_n 0, 1) := by decide +kernel
theorem dX2_countOfMeanings_30 : decode cX2_countOfMeanings 30 = .ok (.aload_n 0, 1) := by decide +kernel
theorem dX2_countOfMeanings_31 : decode cX2_countOfMeanings 31 = .ok (.getfield 15, 3) := by decide +kernel
theorem dX2_countOfMeanings_34 : decode cX2_countOfMeanings 34 = .ok (.aload_n 1, 1) := by decide +kernel
theorem dX2_countOfMeanings_35 : decode cX2_countOfMeanings 35 = .ok (.iload_n 2, 1) := by decide +kernel
theorem dX2_countOfMeanings_36 : decode cX2_countOfMeanings 36 = .ok (.invokevirtual 48, 3) := by decide +kernel
theorem dX2_countOfMeanings_39 : decode cX2_countOfMeanings 39 = .ok (.iload_n 2, 1) := by decide +kernel
theorem dX2_countOfMeanings_40 : decode cX2_countOfMeanings 40 = .ok (.iload 5, 2) := by decide +kernel
theorem dX2_countOfMeanings_42 : decode cX2_countOfMeanings 42 = .ok (.iconst 0, 1) := by decide +kernel
theorem dX2_countOfMeanings_43 : decode cX2_countOfMeanings 43 = .ok (.invokevirtual 54, 3) := by decide +kernel
theorem dX2_countOfMeanings_46 : decode cX2_countOfMeanings 46 = .ok (.l2i, 1) := by decide +kernel
theorem dX2_countOfMeanings_47 : decode cX2_countOfMeanings 47 = .ok (.ireturn, 1) := by decide +kernel
theorem dX2_setOfHeads_0 : decode cX2_setOfHeads 0 = .ok (.aload_n 1, 1) := by decide +kernel
theorem dX2_setOfHeads_1 : decode cX2_setOfHeads 1 = .ok (.iload_n 2, 1) := by decide +kernel
theorem dX2_setOfHeads_2 : decode cX2_setOfHeads 2 = .ok (.aload_n 3, 1) := by decide +kernel
theorem dX2_setOfHeads_3 : decode cX2_setOfHeads 3 = .ok (.invokestatic 41, 3) := by decide +kernel
theorem dX2_setOfHeads_6 : decode cX2_setOfHeads 6 = .ok (.ifCond .ne 5, 3) := by decide +kernel
theorem dX2_setOfHeads_9 : decode cX2_setOfHeads 9 = .ok (.iconst 0, 1) := by decide +kernel
theorem dX2_setOfHeads_10 : decode cX2_setOfHeads 10 = .ok (.ireturn, 1) := by decide +kernel
theorem dX2_setOfHeads_11 : decode cX2_setOfHeads 11 = .ok (.aload_n 0, 1) := by decide +kernel
theorem dX2_setOfHeads_12 : decode cX2_setOfHeads 12 = .ok (.aload_n 3, 1) := by decide +kernel
theorem dX2_setOfHeads_13 : decode cX2_setOfHeads 13 = .ok (.iload 4, 2) := by decide +kernel
theorem dX2_setOfHeads_15 : decode cX2_setOfHeads 15 = .ok (.invokevirtual 44, 3) := by decide +kernel
theorem dX2_setOfHeads_18 : decode cX2_setOfHeads 18 = .ok (.istore 5, 2) := by decide +kernel
theorem dX2_setOfHeads_20 : decode cX2_setOfHeads 20 = .ok (.aload_n 0, 1) := by decide +kernel
theorem dX2_setOfHeads_21 : decode cX2_setOfHeads 21 = .ok (.getfield 15, 3) := by decide +kernel
theorem dX2_setOfHeads_24 : decode cX2_setOfHeads 24 = .ok (.aload_n 1, 1) := by decide +kernel
theorem dX2_setOfHeads_25 : decode cX2_setOfHeads 25 = .ok (.iload_n 2, 1) := by decide +kernel
theorem dX2_setOfHeads_26 : decode cX2_setOfHeads 26 = .ok (.invokevirtual 48, 3) := by decide +kernel
theorem dX2_setOfHeads_29 : decode cX2_setOfHeads 29 = .ok (.lstore 6, 2) := by decide +kernel
theorem dX2_setOfHeads_31 : decode cX2_setOfHeads 31 = .ok (.iconst 0, 1) := by decide +kernel
theorem dX2_setOfHeads_32 : decode cX2_setOfHeads 32 = .ok (.istore 8, 2) := by decide +kernel
theorem dX2_setOfHeads_34 : decode cX2_setOfHeads 34 = .ok (.iconst 0, 1) := by decide +kernel
theorem dX2_setOfHeads_35 : decode cX2_setOfHeads 35 = .ok (.istore 9, 2) := by decide +kernel
theorem dX2_setOfHeads_37 : decode cX2_setOfHeads 37 = .ok (.iload 9, 2) := by decide +kernel
theorem dX2_setOfHeads_39 : decode cX2_setOfHeads 39 = .ok (.iload_n 2, 1) := by decide +kernel
theorem dX2_setOfHeads_40 : decode cX2_setOfHeads 40 = .ok (.if_icmp .ge 46, 3) := by decide +kernel
theorem dX2_setOfHeads_43 : decode cX2_setOfHeads 43 = .ok (.iload 9, 2) := by decide +kernel
theorem dX2_setOfHeads_45 : decode cX2_setOfHeads 45 = .ok (.bipush 11, 2) := by decide +kernel
theorem dX2_setOfHeads_47 : decode cX2_setOfHeads 47 = .ok (.if_icmp .ge 39, 3) := by decide +kernel
theorem dX2_setOfHeads_50 : decode cX2_setOfHeads 50 = .ok (.iload 8, 2) := by decide +kernel
theorem dX2_setOfHeads_52 : decode cX2_setOfHeads 52 = .ok (.aload_n 0, 1) := by decide +kernel
theorem dX2_setOfHeads_53 : decode cX2_setOfHeads 53 = .ok (.lload 6, 2) := by decide +kernel
theorem dX2_setOfHeads_55 : decode cX2_setOfHeads 55 = .ok (.iload_n 2, 1) := by decide +kernel
theorem dX2_setOfHeads_56 : decode cX2_setOfHeads 56 = .ok (.iload 5, 2) := by decide +kernel
theorem dX2_setOfHeads_58 : decode cX2_setOfHeads 58 = .ok (.iload 9, 2) := by decide +kernel
theorem dX2_setOfHeads_60 : decode cX2_setOfHeads 60 = .ok (.iconst 0, 1) := by decide +kernel
theorem dX2_setOfHeads_61 : decode cX2_setOfHeads 61 = .ok (.invokevirtual 60, 3) := by decide +kernel
theorem dX2_setOfHeads_64 : decode cX2_setOfHeads 64 = .ok (.lconst 0, 1) := by decide +kernel
theorem dX2_setOfHeads_65 : decode cX2_setOfHeads 65 = .ok (.lcmp, 1) := by decide +kernel
theorem dX2_setOfHeads_66 : decode cX2_setOfHeads 66 = .ok (.ifCond .le 10, 3) := by decide +kernel
theorem dX2_setOfHeads_69 : decode cX2_setOfHeads 69 = .ok (.iconst 1, 1) := by decide +kernel
theorem dX2_setOfHeads_70 : decode cX2_setOfHeads 70 = .ok (.iload 9, 2) := by decide +kernel
theorem dX2_setOfHeads_72 : decode cX2_setOfHeads 72 = .ok (.ishl, 1) := by decide +kernel
theorem dX2_setOfHeads_73 : decode cX2_setOfHeads 73 = .ok (.goto 4, 3) := by decide +kernel
theorem dX2_setOfHeads_76 : decode cX2_setOfHeads 76 = .ok (.iconst 0, 1) := by decide +kernel
theorem dX2_setOfHeads_77 : decode cX2_setOfHeads 77 = .ok (.ior, 1) := by decide +kernel
theorem dX2_setOfHeads_78 : decode cX2_setOfHeads 78 = .ok (.istore 8, 2) := by decide +kernel
theorem dX2_setOfHeads_80 : decode cX2_setOfHeads 80 = .ok (.iinc 9 1, 3) := by decide +kernel
theorem dX2_setOfHeads_83 : decode cX2_setOfHeads 83 = .ok (.goto (-46), 3) := by decide +kernel
theorem dX2_setOfHeads_86 : decode cX2_setOfHeads 86 = .ok (.iload 8, 2) := by decide +kernel
theorem dX2_setOfHeads_88 : decode cX2_setOfHeads 88 = .ok (.ireturn, 1) := by decide +kernel
theorem dX2_isBalanced_0 : decode cX2_isBalanced 0 = .ok (.lconst 0, 1) := by decide +kernel
theorem dX2_isBalanced_1 : decode cX2_isBalanced 1 = .ok (.lstore_n 3, 1) := by decide +kernel
theorem dX2_isBalanced_2 : decode cX2_isBalanced 2 = .ok (.iconst 0, 1) := by decide +kernel
theorem dX2_isBalanced_3 : decode cX2_isBalanced 3 = .ok (.istore 5, 2) := by decide +kernel
theorem dX2_isBalanced_5 : decode cX2_isBalanced 5 = .ok (.iload 5, 2) := by decide +kernel
theorem dX2_isBalanced_7 : decode cX2_isBalanced 7 = .ok (.iload_n 1, 1) := by decide +kernel
theorem dX2_isBalanced_8 : decode cX2_isBalanced 8 = .ok (.if_icmp .ge 26, 3) := by decide +kernel
theorem dX2_isBalanced_11 : decode cX2_isBalanced 11 = .ok (.iload 5, 2) := by decide +kernel
theorem dX2_isBalanced_13 : decode cX2_isBalanced 13 = .ok (.aload_n 0, 1) := by decide +kernel
theorem dX2_isBalanced_14 : decode cX2_isBalanced 14 = .ok (.arraylength, 1) := by decide +kernel
theorem dX2_isBalanced_15 : decode cX2_isBalanced 15 = .ok (.if_icmp .ge 19, 3) := by decide +kernel
theorem dX2_isBalanced_18 : decode cX2_isBalanced 18 = .ok (.lload_n 3, 1) := by decide +kernel
theorem dX2_isBalanced_19 : decode cX2_isBalanced 19 = .ok (.aload_n 0, 1) := by decide +kernel
theorem dX2_isBalanced_20 : decode cX2_isBalanced 20 = .ok (.iload 5, 2) := by decide +kernel
theorem dX2_isBalanced_22 : decode cX2_isBalanced 22 = .ok (.aaload, 1) := by decide +kernel
theorem dX2_isBalanced_23 : decode cX2_isBalanced 23 = .ok (.getfield 64, 3) := by decide +kernel
theorem dX2_isBalanced_26 : decode cX2_isBalanced 26 = .ok (.ladd, 1) := by decide +kernel
theorem dX2_isBalanced_27 : decode cX2_isBalanced 27 = .ok (.lstore_n 3, 1) := by decide +kernel
theorem dX2_isBalanced_28 : decode cX2_isBalanced 28 = .ok (.iinc 5 1, 3) := by decide +kernel
theorem dX2_isBalanced_31 : decode cX2_isBalanced 31 = .ok (.goto (-26), 3) := by decide +kernel
theorem dX2_isBalanced_34 : decode cX2_isBalanced 34 = .ok (.lload_n 3, 1) := by decide +kernel
theorem dX2_isBalanced_35 : decode cX2_isBalanced 35 = .ok (.aload_n 2, 1) := by decide +kernel
theorem dX2_isBalanced_36 : decode cX2_isBalanced 36 = .ok (.getfield 64, 3) := by decide +kernel
theorem dX2_isBalanced_39 : decode cX2_isBalanced 39 = .ok (.lcmp, 1) := by decide +kernel
theorem dX2_isBalanced_40 : decode cX2_isBalanced 40 = .ok (.ifCond .ne 7, 3) := by decide +kernel
theorem dX2_isBalanced_43 : decode cX2_isBalanced 43 = .ok (.iconst 1, 1) := by decide +kernel
theorem dX2_isBalanced_44 : decode cX2_isBalanced 44 = .ok (.goto 4, 3) := by decide +kernel
theorem dX2_isBalanced_47 : decode cX2_isBalanced 47 = .ok (.iconst 0, 1) := by decide +kernel
theorem dX2_isBalanced_48 : decode cX2_isBalanced 48 = .ok (.ireturn, 1) := by decide +kernel
theorem dX2_open_0 : decode cX2_open 0 = .ok (.aload_n 0, 1) := by decide +kernel
theorem dX2_open_1 : decode cX2_open 1 = .ok (.iload_n 2, 1) := by decide +kernel
theorem dX2_open_2 : decode cX2_open 2 = .ok (.putfield 9, 3) := by decide +kernel
theorem dX2_open_5 : decode cX2_open 5 = .ok (.aload_n 0, 1) := by decide +kernel
theorem dX2_open_6 : decode cX2_open 6 = .ok (.getfield 15, 3) := by decide +kernel
theorem dX2_open_9 : decode cX2_open 9 = .ok (.invokevirtual 68, 3) := by decide +kernel
theorem dX2_open_12 : decode cX2_open 12 = .ok (.aload_n 0, 1) := by decide +kernel
theorem dX2_open_13 : decode cX2_open 13 = .ok (.getfield 19, 3) := by decide +kernel
theorem dX2_open_16 : decode cX2_open 16 = .ok (.invokevirtual 71, 3) := by decide +kernel
theorem dX2_open_19 : decode cX2_open 19 = .ok (.aload_n 0, 1) := by decide +kernel
theorem dX2_open_20 : decode cX2_open 20 = .ok (.getfield 15, 3) := by decide +kernel
theorem dX2_open_23 : decode cX2_open 23 = .ok (.aload_n 1, 1) := by decide +kernel
theorem dX2_open_24 : decode cX2_open 24 = .ok (.invokevirtual 76, 3) := by decide +kernel
theorem dX2_open_27 : decode cX2_open 27 = .ok (.ireturn, 1) := by decide +kernel
theorem dX2_mean_0 : decode cX2_mean 0 = .ok (.iload 5, 2) := by decide +kernel
theorem dX2_mean_2 : decode cX2_mean 2 = .ok (.bipush 40, 2) := by decide +kernel
theorem dX2_mean_4 : decode cX2_mean 4 = .ok (.if_icmp .gt 14, 3) := by decide +kernel
theorem dX2_mean_7 : decode cX2_mean 7 = .ok (.aload_n 0, 1) := by decide +kernel
theorem dX2_mean_8 : decode cX2_mean 8 = .ok (.getfield 9, 3) := by decide +kernel
theorem dX2_mean_11 : decode cX2_mean 11 = .ok (.ifCond .eq 9, 3) := by decide +kernel
theorem dX2_mean_14 : decode cX2_mean 14 = .ok (.iload_n 3, 1) := by decide +kernel
theorem dX2_mean_15 : decode cX2_mean 15 = .ok (.ifCond .ne 5, 3) := by decide +kernel
theorem dX2_mean_18 : decode cX2_mean 18 = .ok (.lconst 0, 1) := by decide +kernel
theorem dX2_mean_19 : decode cX2_mean 19 = .ok (.lreturn, 1) := by decide +kernel
theorem dX2_mean_20 : decode cX2_mean 20 = .ok (.aload_n 0, 1) := by decide +kernel
theorem dX2_mean_21 : decode cX2_mean 21 = .ok (.getfield 15, 3) := by decide +kernel
theorem dX2_mean_24 : decode cX2_mean 24 = .ok (.lload_n 1, 1) := by decide +kernel
theorem dX2_mean_25 : decode cX2_mean 25 = .ok (.iload_n 3, 1) := by decide +kernel
theorem dX2_mean_26 : decode cX2_mean 26 = .ok (.invokevirtual 80, 3) := by decide +kernel
theorem dX2_mean_29 : decode cX2_mean 29 = .ok (.aload_n 0, 1) := by decide +kernel
theorem dX2_mean_30 : decode cX2_mean 30 = .ok (.getfield 15, 3) := by decide +kernel
theorem dX2_mean_33 : decode cX2_mean 33 = .ok (.getfield 84, 3) := by decide +kernel
theorem dX2_mean_36 : decode cX2_mean 36 = .ok (.iload 4, 2) := by decide +kernel
theorem dX2_mean_38 : decode cX2_mean 38 = .ok (.bipush 31, 2) := by decide +kernel
theorem dX2_mean_40 : decode cX2_mean 40 = .ok (.iand, 1) := by decide +kernel
theorem dX2_mean_41 : decode cX2_mean 41 = .ok (.laload, 1) := by decide +kernel
theorem dX2_mean_42 : decode cX2_mean 42 = .ok (.lcmp, 1) := by decide +kernel
theorem dX2_mean_43 : decode cX2_mean 43 = .ok (.ifCond .eq 5, 3) := by decide +kernel
theorem dX2_mean_46 : decode cX2_mean 46 = .ok (.lconst 0, 1) := by decide +kernel
theorem dX2_mean_47 : decode cX2_mean 47 = .ok (.lreturn, 1) := by decide +kernel
theorem dX2_mean_48 : decode cX2_mean 48 = .ok (.iload 4, 2) := by decide +kernel
theorem dX2_mean_50 : decode cX2_mean 50 = .ok (.bipush 31, 2) := by decide +kernel
theorem dX2_mean_52 : decode cX2_mean 52 = .ok (.iand, 1) := by decide +kernel
theorem dX2_mean_53 : decode cX2_mean 53 = .ok (.istore 6, 2) := by decide +kernel
theorem dX2_mean_55 : decode cX2_mean 55 = .ok (.lload_n 1, 1) := by decide +kernel
theorem dX2_mean_56 : decode cX2_mean 56 = .ok (.lstore 7, 2) := by decide +kernel
theorem dX2_mean_58 : decode cX2_mean 58 = .ok (.iload_n 3, 1) := by decide +kernel
theorem dX2_mean_59 : decode cX2_mean 59 = .ok (.istore 9, 2) := by decide +kernel
theorem dX2_mean_61 : decode cX2_mean 61 = .ok (.iconst 0, 1) := by decide +kernel
theorem dX2_mean_62 : decode cX2_mean 62 = .ok (.istore 10, 2) := by decide +kernel
theorem dX2_mean_64 : decode cX2_mean 64 = .ok (.iload 10, 2) := by decide +kernel
theorem dX2_mean_66 : decode cX2_mean 66 = .ok (.bipush 32, 2) := by decide +kernel
theorem dX2_mean_68 : decode cX2_mean 68 = .ok (.if_icmp .ge 104, 3) := by decide +kernel
theorem dX2_mean_71 : decode cX2_mean 71 = .ok (.aload_n 0, 1) := by decide +kernel
theorem dX2_mean_72 : decode cX2_mean 72 = .ok (.getfield 15, 3) := by decide +kernel
theorem dX2_mean_75 : decode cX2_mean 75 = .ok (.getfield 87, 3) := by decide +kernel
theorem dX2_mean_78 : decode cX2_mean 78 = .ok (.iload 6, 2) := by decide +kernel
theorem dX2_mean_80 : decode cX2_mean 80 = .ok (.iaload, 1) := by decide +kernel
theorem dX2_mean_81 : decode cX2_mean 81 = .ok (.bipush 8, 2) := by decide +kernel
theorem dX2_mean_83 : decode cX2_mean 83 = .ok (.if_icmp .lt 89, 3) := by decide +kernel
theorem dX2_mean_86 : decode cX2_mean 86 = .ok (.iload 9, 2) := by decide +kernel
theorem dX2_mean_88 : decode cX2_mean 88 = .ok (.ifCond .lt 10, 3) := by decide +kernel
theorem dX2_mean_91 : decode cX2_mean 91 = .ok (.iload 9, 2) := by decide +kernel
theorem dX2_mean_93 : decode cX2_mean 93 = .ok (.bipush 11, 2) := by decide +kernel
theorem dX2_mean_95 : decode cX2_mean 95 = .ok (.if_icmp .lt 5, 3) := by decide +kernel
theorem dX2_mean_98 : decode cX2_mean 98 = .ok (.lconst 0, 1) := by decide +kernel
theorem dX2_mean_99 : decode cX2_mean 99 = .ok (.lreturn, 1) := by decide +kernel
theorem dX2_mean_100 : decode cX2_mean 100 = .ok (.aload_n 0, 1) := by decide +kernel
theorem dX2_mean_101 : decode cX2_mean 101 = .ok (.getfield 15, 3) := by decide +kernel
theorem dX2_mean_104 : decode cX2_mean 104 = .ok (.getfield 91, 3) := by decide +kernel
theorem dX2_mean_107 : decode cX2_mean 107 = .ok (.iload 6, 2) := by decide +kernel
theorem dX2_mean_109 : decode cX2_mean 109 = .ok (.iaload, 1) := by decide +kernel
theorem dX2_mean_110 : decode cX2_mean 110 = .ok (.istore 11, 2) := by decide +kernel
theorem dX2_mean_112 : decode cX2_mean 112 = .ok (.aload_n 0, 1) := by decide +kernel
theorem dX2_mean_113 : decode cX2_mean 113 = .ok (.getfield 15, 3) := by decide +kernel
theorem dX2_mean_116 : decode cX2_mean 116 = .ok (.getfield 87, 3) := by decide +kernel
theorem dX2_mean_119 : decode cX2_mean 119 = .ok (.iload 6, 2) := by decide +kernel
theorem dX2_mean_121 : decode cX2_mean 121 = .ok (.iaload, 1) := by decide +kernel
theorem dX2_mean_122 : decode cX2_mean 122 = .ok (.bipush 8, 2) := by decide +kernel
theorem dX2_mean_124 : decode cX2_mean 124 = .ok (.if_icmp .ne 15, 3) := by decide +kernel
theorem dX2_mean_127 : decode cX2_mean 127 = .ok (.lload 7, 2) := by decide +kernel
theorem dX2_mean_129 : decode cX2_mean 129 = .ok (.iload 9, 2) := by decide +kernel
theorem dX2_mean_131 : decode cX2_mean 131 = .ok (.iload 11, 2) := by decide +kernel
theorem dX2_mean_133 : decode cX2_mean 133 = .ok (.invokestatic 94, 3) := by decide +kernel
theorem dX2_mean_136 : decode cX2_mean 136 = .ok (.goto 10, 3) := by decide +kernel
theorem dX2_mean_139 : decode cX2_mean 139 = .ok (.lload 7, 2) := by decide +kernel
theorem dX2_mean_141 : decode cX2_mean 141 = .ok (.iload 11, 2) := by decide +kernel
theorem dX2_mean_143 : decode cX2_mean 143 = .ok (.invokestatic 98, 3) := by decide +kernel
theorem dX2_mean_146 : decode cX2_mean 146 = .ok (.lstore 7, 2) := by decide +kernel
theorem dX2_mean_148 : decode cX2_mean 148 = .ok (.iinc 9 1, 3) := by decide +kernel
theorem dX2_mean_151 : decode cX2_mean 151 = .ok (.aload_n 0, 1) := by decide +kernel
theorem dX2_mean_152 : decode cX2_mean 152 = .ok (.getfield 15, 3) := by decide +kernel
theorem dX2_mean_155 : decode cX2_mean 155 = .ok (.getfield 101, 3) := by decide +kernel
theorem dX2_mean_158 : decode cX2_mean 158 = .ok (.iload 6, 2) := by decide +kernel
theorem dX2_mean_160 : decode cX2_mean 160 = .ok (.iaload, 1) := by decide +kernel
theorem dX2_mean_161 : decode cX2_mean 161 = .ok (.bipush 31, 2) := by decide +kernel
theorem dX2_mean_163 : decode cX2_mean 163 = .ok (.iand, 1) := by decide +kernel
theorem dX2_mean_164 : decode cX2_mean 164 = .ok (.istore 6, 2) := by decide +kernel
theorem dX2_mean_166 : decode cX2_mean 166 = .ok (.iinc 10 1, 3) := by decide +kernel
theorem dX2_mean_169 : decode cX2_mean 169 = .ok (.goto (-105), 3) := by decide +kernel
theorem dX2_mean_172 : decode cX2_mean 172 = .ok (.aload_n 0, 1) := by decide +kernel
theorem dX2_mean_173 : decode cX2_mean 173 = .ok (.lload 7, 2) := by decide +kernel
theorem dX2_mean_175 : decode cX2_mean 175 = .ok (.iload 9, 2) := by decide +kernel
theorem dX2_mean_177 : decode cX2_mean 177 = .ok (.iload 6, 2) := by decide +kernel
theorem dX2_mean_179 : decode cX2_mean 179 = .ok (.iload 5, 2) := by decide +kernel
theorem dX2_mean_181 : decode cX2_mean 181 = .ok (.invokevirtual 104, 3) := by decide +kernel
theorem dX2_mean_184 : decode cX2_mean 184 = .ok (.lreturn, 1) := by decide +kernel
theorem dX2_meanAtom_0 : decode cX2_meanAtom 0 = .ok (.lload_n 1, 1) := by decide +kernel
theorem dX2_meanAtom_1 : decode cX2_meanAtom 1 = .ok (.iload 4, 2) := by decide +kernel
theorem dX2_meanAtom_3 : decode cX2_meanAtom 3 = .ok (.invokestatic 107, 3) := by decide +kernel
theorem dX2_meanAtom_6 : decode cX2_meanAtom 6 = .ok (.lstore 6, 2) := by decide +kernel
theorem dX2_meanAtom_8 : decode cX2_meanAtom 8 = .ok (.aload_n 0, 1) := by decide +kernel
theorem dX2_meanAtom_9 : decode cX2_meanAtom 9 = .ok (.getfield 19, 3) := by decide +kernel
theorem dX2_meanAtom_12 : decode cX2_meanAtom 12 = .ok (.lload 6, 2) := by decide +kernel
theorem dX2_meanAtom_14 : decode cX2_meanAtom 14 = .ok (.invokevirtual 110, 3) := by decide +kernel
theorem dX2_meanAtom_17 : decode cX2_meanAtom 17 = .ok (.istore 8, 2) := by decide +kernel
theorem dX2_meanAtom_19 : decode cX2_meanAtom 19 = .ok (.iload 8, 2) := by decide +kernel
theorem dX2_meanAtom_21 : decode cX2_meanAtom 21 = .ok (.ifCond .lt 7, 3) := by decide +kernel
theorem dX2_meanAtom_24 : decode cX2_meanAtom 24 = .ok (.iload 8, 2) := by decide +kernel
theorem dX2_meanAtom_26 : decode cX2_meanAtom 26 = .ok (.i2l, 1) := by decide +kernel
theorem dX2_meanAtom_27 : decode cX2_meanAtom 27 = .ok (.lreturn, 1) := by decide +kernel
theorem dX2_meanAtom_28 : decode cX2_meanAtom 28 = .ok (.lconst 0, 1) := by decide +kernel
theorem dX2_meanAtom_29 : decode cX2_meanAtom 29 = .ok (.lstore 9, 2) := by decide +kernel
theorem dX2_meanAtom_31 : decode cX2_meanAtom 31 = .ok (.iconst 0, 1) := by decide +kernel
theorem dX2_meanAtom_32 : decode cX2_meanAtom 32 = .ok (.istore 11, 2) := by decide +kernel
theorem dX2_meanAtom_34 : decode cX2_meanAtom 34 = .ok (.iload 11, 2) := by decide +kernel
theorem dX2_meanAtom_36 : decode cX2_meanAtom 36 = .ok (.iload_n 3, 1) := by decide +kernel
theorem dX2_meanAtom_37 : decode cX2_meanAtom 37 = .ok (.if_icmp .ge 37, 3) := by decide +kernel
theorem dX2_meanAtom_40 : decode cX2_meanAtom 40 = .ok (.iload 11, 2) := by decide +kernel
theorem dX2_meanAtom_42 : decode cX2_meanAtom 42 = .ok (.bipush 11, 2) := by decide +kernel
theorem dX2_meanAtom_44 : decode cX2_meanAtom 44 = .ok (.if_icmp .ge 30, 3) := by decide +kernel
theorem dX2_meanAtom_47 : decode cX2_meanAtom 47 = .ok (.lload 9, 2) := by decide +kernel
theorem dX2_meanAtom_49 : decode cX2_meanAtom 49 = .ok (.aload_n 0, 1) := by decide +kernel
theorem dX2_meanAtom_50 : decode cX2_meanAtom 50 = .ok (.lload_n 1, 1) := by decide +kernel
theorem dX2_meanAtom_51 : decode cX2_meanAtom 51 = .ok (.iload_n 3, 1) := by decide +kernel
theorem dX2_meanAtom_52 : decode cX2_meanAtom 52 = .ok (.iload 4, 2) := by decide +kernel
theorem dX2_meanAtom_54 : decode cX2_meanAtom 54 = .ok (.iload 11, 2) := by decide +kernel
theorem dX2_meanAtom_56 : decode cX2_meanAtom 56 = .ok (.iload 5, 2) := by decide +kernel
theorem dX2_meanAtom_58 : decode cX2_meanAtom 58 = .ok (.invokevirtual 60, 3) := by decide +kernel
theorem dX2_meanAtom_61 : decode cX2_meanAtom 61 = .ok (.ladd, 1) := by decide +kernel
theorem dX2_meanAtom_62 : decode cX2_meanAtom 62 = .ok (.ldc2_w 114, 3) := by decide +kernel
theorem dX2_meanAtom_65 : decode cX2_meanAtom 65 = .ok (.lrem, 1) := by decide +kernel
theorem dX2_meanAtom_66 : decode cX2_meanAtom 66 = .ok (.lstore 9, 2) := by decide +kernel
theorem dX2_meanAtom_68 : decode cX2_meanAtom 68 = .ok (.iinc 11 1, 3) := by decide +kernel
theorem dX2_meanAtom_71 : decode cX2_meanAtom 71 = .ok (.goto (-37), 3) := by decide +kernel
theorem dX2_meanAtom_74 : decode cX2_meanAtom 74 = .ok (.aload_n 0, 1) := by decide +kernel
theorem dX2_meanAtom_75 : decode cX2_meanAtom 75 = .ok (.getfield 19, 3) := by decide +kernel
theorem dX2_meanAtom_78 : decode cX2_meanAtom 78 = .ok (.lload 6, 2) := by decide +kernel
theorem dX2_meanAtom_80 : decode cX2_meanAtom 80 = .ok (.lload 9, 2) := by decide +kernel
theorem dX2_meanAtom_82 : decode cX2_meanAtom 82 = .ok (.l2i, 1) := by decide +kernel
theorem dX2_meanAtom_83 : decode cX2_meanAtom 83 = .ok (.invokevirtual 116, 3) := by decide +kernel
theorem dX2_meanAtom_86 : decode cX2_meanAtom 86 = .ok (.lload 9, 2) := by decide +kernel
theorem dX2_meanAtom_88 : decode cX2_meanAtom 88 = .ok (.lreturn, 1) := by decide +kernel
theorem dX2_meanByHead_0 : decode cX2_meanByHead 0 = .ok (.lload_n 1, 1) := by decide +kernel
theorem dX2_meanByHead_1 : decode cX2_meanByHead 1 = .ok (.iload 5, 2) := by decide +kernel
theorem dX2_meanByHead_3 : decode cX2_meanByHead 3 = .ok (.invokestatic 120, 3) := by decide +kernel
theorem dX2_meanByHead_6 : decode cX2_meanByHead 6 = .ok (.bipush 31, 2) := by decide +kernel
theorem dX2_meanByHead_8 : decode cX2_meanByHead 8 = .ok (.iand, 1) := by decide +kernel
theorem dX2_meanByHead_9 : decode cX2_meanByHead 9 = .ok (.istore 7, 2) := by decide +kernel
theorem dX2_meanByHead_11 : decode cX2_meanByHead 11 = .ok (.aload_n 0, 1) := by decide +kernel
theorem dX2_meanByHead_12 : decode cX2_meanByHead 12 = .ok (.getfield 15, 3) := by decide +kernel
theorem dX2_meanByHead_15 : decode cX2_meanByHead 15 = .ok (.getfield 124, 3) := by decide +kernel
theorem dX2_meanByHead_18 : decode cX2_meanByHead 18 = .ok (.iload 7, 2) := by decide +kernel
theorem dX2_meanByHead_20 : decode cX2_meanByHead 20 = .ok (.iaload, 1) := by decide +kernel
theorem dX2_meanByHead_21 : decode cX2_meanByHead 21 = .ok (.aload_n 0, 1) := by decide +kernel
theorem dX2_meanByHead_22 : decode cX2_meanByHead 22 = .ok (.getfield 15, 3) := by decide +kernel
theorem dX2_meanByHead_25 : decode cX2_meanByHead 25 = .ok (.getfield 124, 3) := by decide +kernel
theorem dX2_meanByHead_28 : decode cX2_meanByHead 28 = .ok (.iload 4, 2) := by decide +kernel
theorem dX2_meanByHead_30 : decode cX2_meanByHead 30 = .ok (.bipush 31, 2) := by decide +kernel
theorem dX2_meanByHead_32 : decode cX2_meanByHead 32 = .ok (.iand, 1) := by decide +kernel
theorem dX2_meanByHead_33 : decode cX2_meanByHead 33 = .ok (.iaload, 1) := by decide +kernel
theorem dX2_meanByHead_34 : decode cX2_meanByHead 34 = .ok (.if_icmp .eq 5, 3) := by decide +kernel
theorem dX2_meanByHead_37 : decode cX2_meanByHead 37 = .ok (.lconst 0, 1) := by decide +kernel
theorem dX2_meanByHead_38 : decode cX2_meanByHead 38 = .ok (.lreturn, 1) := by decide +kernel
theorem dX2_meanByHead_39 : decode cX2_meanByHead 39 = .ok (.aload_n 0, 1) := by decide +kernel
theorem dX2_meanByHead_40 : decode cX2_meanByHead 40 = .ok (.lload_n 1, 1) := by decide +kernel
theorem dX2_meanByHead_41 : decode cX2_meanByHead 41 = .ok (.iload_n 3, 1) := by decide +kernel
theorem dX2_meanByHead_42 : decode cX2_meanByHead 42 = .ok (.iload 7, 2) := by decide +kernel
theorem dX2_meanByHead_44 : decode cX2_meanByHead 44 = .ok (.iload 5, 2) := by decide +kernel
theorem dX2_meanByHead_46 : decode cX2_meanByHead 46 = .ok (.iload 5, 2) := by decide +kernel
theorem dX2_meanByHead_48 : decode cX2_meanByHead 48 = .ok (.iconst 1, 1) := by decide +kernel
theorem dX2_meanByHead_49 : decode cX2_meanByHead 49 = .ok (.iadd, 1) := by decide +kernel
theorem dX2_meanByHead_50 : decode cX2_meanByHead 50 = .ok (.iload 6, 2) := by decide +kernel
theorem dX2_meanByHead_52 : decode cX2_meanByHead 52 = .ok (.iconst 1, 1) := by decide +kernel
theorem dX2_meanByHead_53 : decode cX2_meanByHead 53 = .ok (.iadd, 1) := by decide +kernel
theorem dX2_meanByHead_54 : decode cX2_meanByHead 54 = .ok (.invokevirtual 127, 3) := by decide +kernel
theorem dX2_meanByHead_57 : decode cX2_meanByHead 57 = .ok (.lreturn, 1) := by decide +kernel
theorem dX2_useUp_0 : decode cX2_useUp 0 = .ok (.iload 7, 2) := by decide +kernel
theorem dX2_useUp_2 : decode cX2_useUp 2 = .ok (.bipush 40, 2) := by decide +kernel
theorem dX2_useUp_4 : decode cX2_useUp 4 = .ok (.if_icmp .le 5, 3) := by decide +kernel
theorem dX2_useUp_7 : decode cX2_useUp 7 = .ok (.lconst 0, 1) := by decide +kernel
theorem dX2_useUp_8 : decode cX2_useUp 8 = .ok (.lreturn, 1) := by decide +kernel
theorem dX2_useUp_9 : decode cX2_useUp 9 = .ok (.aload_n 0, 1) := by decide +kernel
theorem dX2_useUp_10 : decode cX2_useUp 10 = .ok (.getfield 15, 3) := by decide +kernel
theorem dX2_useUp_13 : decode cX2_useUp 13 = .ok (.getfield 101, 3) := by decide +kernel
theorem dX2_useUp_16 : decode cX2_useUp 16 = .ok (.iload 4, 2) := by decide +kernel
theorem dX2_useUp_18 : decode cX2_useUp 18 = .ok (.bipush 31, 2) := by decide +kernel
theorem dX2_useUp_20 : decode cX2_useUp 20 = .ok (.iand, 1) := by decide +kernel
theorem dX2_useUp_21 : decode cX2_useUp 21 = .ok (.iaload, 1) := by decide +kernel
theorem dX2_useUp_22 : decode cX2_useUp 22 = .ok (.istore 8, 2) := by decide +kernel
theorem dX2_useUp_24 : decode cX2_useUp 24 = .ok (.aload_n 0, 1) := by decide +kernel
theorem dX2_useUp_25 : decode cX2_useUp 25 = .ok (.getfield 15, 3) := by decide +kernel
theorem dX2_useUp_28 : decode cX2_useUp 28 = .ok (.getfield 91, 3) := by decide +kernel
theorem dX2_useUp_31 : decode cX2_useUp 31 = .ok (.iload 4, 2) := by decide +kernel
theorem dX2_useUp_33 : decode cX2_useUp 33 = .ok (.bipush 31, 2) := by decide +kernel
theorem dX2_useUp_35 : decode cX2_useUp 35 = .ok (.iand, 1) := by decide +kernel
theorem dX2_useUp_36 : decode cX2_useUp 36 = .ok (.iaload, 1) := by decide +kernel
theorem dX2_useUp_37 : decode cX2_useUp 37 = .ok (.istore 9, 2) := by decide +kernel
theorem dX2_useUp_39 : decode cX2_useUp 39 = .ok (.lconst 0, 1) := by decide +kernel
theorem dX2_useUp_40 : decode cX2_useUp 40 = .ok (.lstore 10, 2) := by decide +kernel
theorem dX2_useUp_42 : decode cX2_useUp 42 = .ok (.aload_n 0, 1) := by decide +kernel
theorem dX2_useUp_43 : decode cX2_useUp 43 = .ok (.getfield 15, 3) := by decide +kernel
theorem dX2_useUp_46 : decode cX2_useUp 46 = .ok (.getfield 87, 3) := by decide +kernel
theorem dX2_useUp_49 : decode cX2_useUp 49 = .ok (.iload 4, 2) := by decide +kernel
theorem dX2_useUp_51 : decode cX2_useUp 51 = .ok (.bipush 31, 2) := by decide +kernel
theorem dX2_useUp_53 : decode cX2_useUp 53 = .ok (.iand, 1) := by decide +kernel
theorem dX2_useUp_54 : decode cX2_useUp 54 = .ok (.iaload, 1) := by decide +kernel
theorem dX2_useUp_55 : decode cX2_useUp 55 = .ok (.lookupswitch 191 #[(8, 25), (9, 108)], 25) := by decide +kernel
theorem dX2_useUp_80 : decode cX2_useUp 80 = .ok (.iload 6, 2) := by decide +kernel
theorem dX2_useUp_82 : decode cX2_useUp 82 = .ok (.istore 12, 2) := by decide +kernel
theorem dX2_useUp_84 : decode cX2_useUp 84 = .ok (.iload 12, 2) := by decide +kernel
theorem dX2_useUp_86 : decode cX2_useUp 86 = .ok (.iload_n 3, 1) := by decide +kernel
theorem dX2_useUp_87 : decode cX2_useUp 87 = .ok (.if_icmp .gt 69, 3) := by decide +kernel
theorem dX2_useUp_90 : decode cX2_useUp 90 = .ok (.aload_n 0, 1) := by decide +kernel
theorem dX2_useUp_91 : decode cX2_useUp 91 = .ok (.lload_n 1, 1) := by decide +kernel
theorem dX2_useUp_92 : decode cX2_useUp 92 = .ok (.iload 6, 2) := by decide +kernel
theorem dX2_useUp_94 : decode cX2_useUp 94 = .ok (.iload 12, 2) := by decide +kernel
theorem dX2_useUp_96 : decode cX2_useUp 96 = .ok (.invokestatic 131, 3) := by decide +kernel
theorem dX2_useUp_99 : decode cX2_useUp 99 = .ok (.iload 12, 2) := by decide +kernel
theorem dX2_useUp_101 : decode cX2_useUp 101 = .ok (.iload 6, 2) := by decide +kernel
theorem dX2_useUp_103 : decode cX2_useUp 103 = .ok (.isub, 1) := by decide +kernel
theorem dX2_useUp_104 : decode cX2_useUp 104 = .ok (.iload 9, 2) := by decide +kernel
theorem dX2_useUp_106 : decode cX2_useUp 106 = .ok (.iload 7, 2) := by decide +kernel
theorem dX2_useUp_108 : decode cX2_useUp 108 = .ok (.iconst 1, 1) := by decide +kernel
theorem dX2_useUp_109 : decode cX2_useUp 109 = .ok (.iadd, 1) := by decide +kernel
theorem dX2_useUp_110 : decode cX2_useUp 110 = .ok (.invokevirtual 54, 3) := by decide +kernel
theorem dX2_useUp_113 : decode cX2_useUp 113 = .ok (.lstore 13, 2) := by decide +kernel
theorem dX2_useUp_115 : decode cX2_useUp 115 = .ok (.lload 13, 2) := by decide +kernel
theorem dX2_useUp_117 : decode cX2_useUp 117 = .ok (.lconst 0, 1) := by decide +kernel
theorem dX2_useUp_118 : decode cX2_useUp 118 = .ok (.lcmp, 1) := by decide +kernel
theorem dX2_useUp_119 : decode cX2_useUp 119 = .ok (.ifCond .le 31, 3) := by decide +kernel
theorem dX2_useUp_122 : decode cX2_useUp 122 = .ok (.lload 10, 2) := by decide +kernel
theorem dX2_useUp_124 : decode cX2_useUp 124 = .ok (.lload 13, 2) := by decide +kernel
theorem dX2_useUp_126 : decode cX2_useUp 126 = .ok (.aload_n 0, 1) := by decide +kernel
theorem dX2_useUp_127 : decode cX2_useUp 127 = .ok (.lload_n 1, 1) := by decide +kernel
theorem dX2_useUp_128 : decode cX2_useUp 128 = .ok (.iload_n 3, 1) := by decide +kernel
theorem dX2_useUp_129 : decode cX2_useUp 129 = .ok (.iload 8, 2) := by decide +kernel
theorem dX2_useUp_131 : decode cX2_useUp 131 = .ok (.iload 5, 2) := by decide +kernel
theorem dX2_useUp_133 : decode cX2_useUp 133 = .ok (.iload 12, 2) := by decide +kernel
theorem dX2_useUp_135 : decode cX2_useUp 135 = .ok (.iload 7, 2) := by decide +kernel
theorem dX2_useUp_137 : decode cX2_useUp 137 = .ok (.iconst 1, 1) := by decide +kernel
theorem dX2_useUp_138 : decode cX2_useUp 138 = .ok (.iadd, 1) := by decide +kernel
theorem dX2_useUp_139 : decode cX2_useUp 139 = .ok (.invokevirtual 127, 3) := by decide +kernel
theorem dX2_useUp_142 : decode cX2_useUp 142 = .ok (.lmul, 1) := by decide +kernel
theorem dX2_useUp_143 : decode cX2_useUp 143 = .ok (.ldc2_w 114, 3) := by decide +kernel
theorem dX2_useUp_146 : decode cX2_useUp 146 = .ok (.lrem, 1) := by decide +kernel
theorem dX2_useUp_147 : decode cX2_useUp 147 = .ok (.ladd, 1) := by decide +kernel
theorem dX2_useUp_148 : decode cX2_useUp 148 = .ok (.lstore 10, 2) := by decide +kernel
theorem dX2_useUp_150 : decode cX2_useUp 150 = .ok (.iinc 12 1, 3) := by decide +kernel
theorem dX2_useUp_153 : decode cX2_useUp 153 = .ok (.goto (-69), 3) := by decide +kernel
theorem dX2_useUp_156 : decode cX2_useUp 156 = .ok (.lload 10, 2) := by decide +kernel
theorem dX2_useUp_158 : decode cX2_useUp 158 = .ok (.ldc2_w 114, 3) := by decide +kernel
theorem dX2_useUp_161 : decode cX2_useUp 161 = .ok (.lrem, 1) := by decide +kernel
theorem dX2_useUp_162 : decode cX2_useUp 162 = .ok (.lreturn, 1) := by decide +kernel
theorem dX2_useUp_163 : decode cX2_useUp 163 = .ok (.iconst 0, 1) := by decide +kernel
theorem dX2_useUp_164 : decode cX2_useUp 164 = .ok (.istore 12, 2) := by decide +kernel
theorem dX2_useUp_166 : decode cX2_useUp 166 = .ok (.iload 12, 2) := by decide +kernel
theorem dX2_useUp_168 : decode cX2_useUp 168 = .ok (.iload 5, 2) := by decide +kernel
theorem dX2_useUp_170 : decode cX2_useUp 170 = .ok (.if_icmp .gt 69, 3) := by decide +kernel
theorem dX2_useUp_173 : decode cX2_useUp 173 = .ok (.aload_n 0, 1) := by decide +kernel
theorem dX2_useUp_174 : decode cX2_useUp 174 = .ok (.lload_n 1, 1) := by decide +kernel
theorem dX2_useUp_175 : decode cX2_useUp 175 = .ok (.iload 12, 2) := by decide +kernel
theorem dX2_useUp_177 : decode cX2_useUp 177 = .ok (.iload 5, 2) := by decide +kernel
theorem dX2_useUp_179 : decode cX2_useUp 179 = .ok (.invokestatic 131, 3) := by decide +kernel
theorem dX2_useUp_182 : decode cX2_useUp 182 = .ok (.iload 5, 2) := by decide +kernel
theorem dX2_useUp_184 : decode cX2_useUp 184 = .ok (.iload 12, 2) := by decide +kernel
theorem dX2_useUp_186 : decode cX2_useUp 186 = .ok (.isub, 1) := by decide +kernel
theorem dX2_useUp_187 : decode cX2_useUp 187 = .ok (.iload 9, 2) := by decide +kernel
theorem dX2_useUp_189 : decode cX2_useUp 189 = .ok (.iload 7, 2) := by decide +kernel
theorem dX2_useUp_191 : decode cX2_useUp 191 = .ok (.iconst 1, 1) := by decide +kernel
theorem dX2_useUp_192 : decode cX2_useUp 192 = .ok (.iadd, 1) := by decide +kernel
theorem dX2_useUp_193 : decode cX2_useUp 193 = .ok (.invokevirtual 54, 3) := by decide +kernel
theorem dX2_useUp_196 : decode cX2_useUp 196 = .ok (.lstore 13, 2) := by decide +kernel
theorem dX2_useUp_198 : decode cX2_useUp 198 = .ok (.lload 13, 2) := by decide +kernel
theorem dX2_useUp_200 : decode cX2_useUp 200 = .ok (.lconst 0, 1) := by decide +kernel
theorem dX2_useUp_201 : decode cX2_useUp 201 = .ok (.lcmp, 1) := by decide +kernel
theorem dX2_useUp_202 : decode cX2_useUp 202 = .ok (.ifCond .le 31, 3) := by decide +kernel
theorem dX2_useUp_205 : decode cX2_useUp 205 = .ok (.lload 10, 2) := by decide +kernel
theorem dX2_useUp_207 : decode cX2_useUp 207 = .ok (.lload 13, 2) := by decide +kernel
theorem dX2_useUp_209 : decode cX2_useUp 209 = .ok (.aload_n 0, 1) := by decide +kernel
theorem dX2_useUp_210 : decode cX2_useUp 210 = .ok (.lload_n 1, 1) := by decide +kernel
theorem dX2_useUp_211 : decode cX2_useUp 211 = .ok (.iload_n 3, 1) := by decide +kernel
theorem dX2_useUp_212 : decode cX2_useUp 212 = .ok (.iload 8, 2) := by decide +kernel
theorem dX2_useUp_214 : decode cX2_useUp 214 = .ok (.iload 12, 2) := by decide +kernel
theorem dX2_useUp_216 : decode cX2_useUp 216 = .ok (.iload 6, 2) := by decide +kernel
theorem dX2_useUp_218 : decode cX2_useUp 218 = .ok (.iload 7, 2) := by decide +kernel
theorem dX2_useUp_220 : decode cX2_useUp 220 = .ok (.iconst 1, 1) := by decide +kernel
theorem dX2_useUp_221 : decode cX2_useUp 221 = .ok (.iadd, 1) := by decide +kernel
theorem dX2_useUp_222 : decode cX2_useUp 222 = .ok (.invokevirtual 127, 3) := by decide +kernel
theorem dX2_useUp_225 : decode cX2_useUp 225 = .ok (.lmul, 1) := by decide +kernel
theorem dX2_useUp_226 : decode cX2_useUp 226 = .ok (.ldc2_w 114, 3) := by decide +kernel
theorem dX2_useUp_229 : decode cX2_useUp 229 = .ok (.lrem, 1) := by decide +kernel
theorem dX2_useUp_230 : decode cX2_useUp 230 = .ok (.ladd, 1) := by decide +kernel
theorem dX2_useUp_231 : decode cX2_useUp 231 = .ok (.lstore 10, 2) := by decide +kernel
theorem dX2_useUp_233 : decode cX2_useUp 233 = .ok (.iinc 12 1, 3) := by decide +kernel
theorem dX2_useUp_236 : decode cX2_useUp 236 = .ok (.goto (-70), 3) := by decide +kernel
theorem dX2_useUp_239 : decode cX2_useUp 239 = .ok (.lload 10, 2) := by decide +kernel
theorem dX2_useUp_241 : decode cX2_useUp 241 = .ok (.ldc2_w 114, 3) := by decide +kernel
theorem dX2_useUp_244 : decode cX2_useUp 244 = .ok (.lrem, 1) := by decide +kernel
theorem dX2_useUp_245 : decode cX2_useUp 245 = .ok (.lreturn, 1) := by decide +kernel
theorem dX2_useUp_246 : decode cX2_useUp 246 = .ok (.iload 5, 2) := by decide +kernel
theorem dX2_useUp_248 : decode cX2_useUp 248 = .ok (.ifCond .ne 13, 3) := by decide +kernel
theorem dX2_useUp_251 : decode cX2_useUp 251 = .ok (.iload 6, 2) := by decide +kernel
theorem dX2_useUp_253 : decode cX2_useUp 253 = .ok (.iload_n 3, 1) := by decide +kernel
theorem dX2_useUp_254 : decode cX2_useUp 254 = .ok (.if_icmp .ne 7, 3) := by decide +kernel
theorem dX2_useUp_257 : decode cX2_useUp 257 = .ok (.lconst 1, 1) := by decide +kernel
theorem dX2_useUp_258 : decode cX2_useUp 258 = .ok (.goto 4, 3) := by decide +kernel
theorem dX2_useUp_261 : decode cX2_useUp 261 = .ok (.lconst 0, 1) := by decide +kernel
theorem dX2_useUp_262 : decode cX2_useUp 262 = .ok (.lreturn, 1) := by decide +kernel
