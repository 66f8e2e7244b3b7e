theorem dX5_at_0 : decode cX5_at 0 = .ok (.lload_n 0, 1) := by decide +kernel
theorem dX5_at_1 : decode cX5_at 1 = .ok (.iconst 5, 1) := by decide +kernel
theorem dX5_at_2 : decode cX5_at 2 = .ok (.iload_n 2, 1) := by decide +kernel
theorem dX5_at_3 : decode cX5_at 3 = .ok (.imul, 1) := by decide +kernel
theorem dX5_at_4 : decode cX5_at 4 = .ok (.lushr, 1) := by decide +kernel
theorem dX5_at_5 : decode cX5_at 5 = .ok (.l2i, 1) := by decide +kernel
theorem dX5_at_6 : decode cX5_at 6 = .ok (.bipush 31, 2) := by decide +kernel
theorem dX5_at_8 : decode cX5_at 8 = .ok (.iand, 1) := by decide +kernel
theorem dX5_at_9 : decode cX5_at 9 = .ok (.ireturn, 1) := by decide +kernel
theorem dX5_put_0 : decode cX5_put 0 = .ok (.lload_n 0, 1) := by decide +kernel
theorem dX5_put_1 : decode cX5_put 1 = .ok (.iload_n 3, 1) := by decide +kernel
theorem dX5_put_2 : decode cX5_put 2 = .ok (.bipush 31, 2) := by decide +kernel
theorem dX5_put_4 : decode cX5_put 4 = .ok (.iand, 1) := by decide +kernel
theorem dX5_put_5 : decode cX5_put 5 = .ok (.i2l, 1) := by decide +kernel
theorem dX5_put_6 : decode cX5_put 6 = .ok (.iconst 5, 1) := by decide +kernel
theorem dX5_put_7 : decode cX5_put 7 = .ok (.iload_n 2, 1) := by decide +kernel
theorem dX5_put_8 : decode cX5_put 8 = .ok (.imul, 1) := by decide +kernel
theorem dX5_put_9 : decode cX5_put 9 = .ok (.lshl, 1) := by decide +kernel
theorem dX5_put_10 : decode cX5_put 10 = .ok (.lor, 1) := by decide +kernel
theorem dX5_put_11 : decode cX5_put 11 = .ok (.lreturn, 1) := by decide +kernel
theorem dX5_ahead_0 : decode cX5_ahead 0 = .ok (.lload_n 0, 1) := by decide +kernel
theorem dX5_ahead_1 : decode cX5_ahead 1 = .ok (.iconst 5, 1) := by decide +kernel
theorem dX5_ahead_2 : decode cX5_ahead 2 = .ok (.lshl, 1) := by decide +kernel
theorem dX5_ahead_3 : decode cX5_ahead 3 = .ok (.iload_n 2, 1) := by decide +kernel
theorem dX5_ahead_4 : decode cX5_ahead 4 = .ok (.bipush 31, 2) := by decide +kernel
theorem dX5_ahead_6 : decode cX5_ahead 6 = .ok (.iand, 1) := by decide +kernel
theorem dX5_ahead_7 : decode cX5_ahead 7 = .ok (.i2l, 1) := by decide +kernel
theorem dX5_ahead_8 : decode cX5_ahead 8 = .ok (.lor, 1) := by decide +kernel
theorem dX5_ahead_9 : decode cX5_ahead 9 = .ok (.lreturn, 1) := by decide +kernel
theorem dX5_part_0 : decode cX5_part 0 = .ok (.lload_n 0, 1) := by decide +kernel
theorem dX5_part_1 : decode cX5_part 1 = .ok (.iconst 5, 1) := by decide +kernel
theorem dX5_part_2 : decode cX5_part 2 = .ok (.iload_n 2, 1) := by decide +kernel
theorem dX5_part_3 : decode cX5_part 3 = .ok (.imul, 1) := by decide +kernel
theorem dX5_part_4 : decode cX5_part 4 = .ok (.lushr, 1) := by decide +kernel
theorem dX5_part_5 : decode cX5_part 5 = .ok (.lconst 1, 1) := by decide +kernel
theorem dX5_part_6 : decode cX5_part 6 = .ok (.iconst 5, 1) := by decide +kernel
theorem dX5_part_7 : decode cX5_part 7 = .ok (.iload_n 3, 1) := by decide +kernel
theorem dX5_part_8 : decode cX5_part 8 = .ok (.iload_n 2, 1) := by decide +kernel
theorem dX5_part_9 : decode cX5_part 9 = .ok (.isub, 1) := by decide +kernel
theorem dX5_part_10 : decode cX5_part 10 = .ok (.imul, 1) := by decide +kernel
theorem dX5_part_11 : decode cX5_part 11 = .ok (.lshl, 1) := by decide +kernel
theorem dX5_part_12 : decode cX5_part 12 = .ok (.lconst 1, 1) := by decide +kernel
theorem dX5_part_13 : decode cX5_part 13 = .ok (.lsub, 1) := by decide +kernel
theorem dX5_part_14 : decode cX5_part 14 = .ok (.land, 1) := by decide +kernel
theorem dX5_part_15 : decode cX5_part 15 = .ok (.lreturn, 1) := by decide +kernel
theorem dX5_exchange_0 : decode cX5_exchange 0 = .ok (.lload_n 0, 1) := by decide +kernel
theorem dX5_exchange_1 : decode cX5_exchange 1 = .ok (.iconst 5, 1) := by decide +kernel
theorem dX5_exchange_2 : decode cX5_exchange 2 = .ok (.iload_n 3, 1) := by decide +kernel
theorem dX5_exchange_3 : decode cX5_exchange 3 = .ok (.imul, 1) := by decide +kernel
theorem dX5_exchange_4 : decode cX5_exchange 4 = .ok (.lushr, 1) := by decide +kernel
theorem dX5_exchange_5 : decode cX5_exchange 5 = .ok (.iconst 5, 1) := by decide +kernel
theorem dX5_exchange_6 : decode cX5_exchange 6 = .ok (.iload_n 2, 1) := by decide +kernel
theorem dX5_exchange_7 : decode cX5_exchange 7 = .ok (.iload 6, 2) := by decide +kernel
theorem dX5_exchange_9 : decode cX5_exchange 9 = .ok (.iadd, 1) := by decide +kernel
theorem dX5_exchange_10 : decode cX5_exchange 10 = .ok (.imul, 1) := by decide +kernel
theorem dX5_exchange_11 : decode cX5_exchange 11 = .ok (.lshl, 1) := by decide +kernel
theorem dX5_exchange_12 : decode cX5_exchange 12 = .ok (.lstore 7, 2) := by decide +kernel
theorem dX5_exchange_14 : decode cX5_exchange 14 = .ok (.lload_n 0, 1) := by decide +kernel
theorem dX5_exchange_15 : decode cX5_exchange 15 = .ok (.iconst 0, 1) := by decide +kernel
theorem dX5_exchange_16 : decode cX5_exchange 16 = .ok (.iload_n 2, 1) := by decide +kernel
theorem dX5_exchange_17 : decode cX5_exchange 17 = .ok (.invokestatic 11, 3) := by decide +kernel
theorem dX5_exchange_20 : decode cX5_exchange 20 = .ok (.lload 4, 2) := by decide +kernel
theorem dX5_exchange_22 : decode cX5_exchange 22 = .ok (.iconst 5, 1) := by decide +kernel
theorem dX5_exchange_23 : decode cX5_exchange 23 = .ok (.iload_n 2, 1) := by decide +kernel
theorem dX5_exchange_24 : decode cX5_exchange 24 = .ok (.imul, 1) := by decide +kernel
theorem dX5_exchange_25 : decode cX5_exchange 25 = .ok (.lshl, 1) := by decide +kernel
theorem dX5_exchange_26 : decode cX5_exchange 26 = .ok (.lor, 1) := by decide +kernel
theorem dX5_exchange_27 : decode cX5_exchange 27 = .ok (.lload 7, 2) := by decide +kernel
theorem dX5_exchange_29 : decode cX5_exchange 29 = .ok (.lor, 1) := by decide +kernel
theorem dX5_exchange_30 : decode cX5_exchange 30 = .ok (.lreturn, 1) := by decide +kernel
theorem dX5_withGoal_0 : decode cX5_withGoal 0 = .ok (.lload_n 0, 1) := by decide +kernel
theorem dX5_withGoal_1 : decode cX5_withGoal 1 = .ok (.iload_n 2, 1) := by decide +kernel
theorem dX5_withGoal_2 : decode cX5_withGoal 2 = .ok (.invokestatic 15, 3) := by decide +kernel
theorem dX5_withGoal_5 : decode cX5_withGoal 5 = .ok (.lreturn, 1) := by decide +kernel
