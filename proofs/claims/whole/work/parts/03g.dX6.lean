theorem dX6_init_0 : decode cX6_init 0 = .ok (.aload_n 0, 1) := by decide +kernel
theorem dX6_init_1 : decode cX6_init 1 = .ok (.invokespecial 3, 3) := by decide +kernel
theorem dX6_init_4 : decode cX6_init 4 = .ok (.aload_n 0, 1) := by decide +kernel
theorem dX6_init_5 : decode cX6_init 5 = .ok (.iconst 1, 1) := by decide +kernel
theorem dX6_init_6 : decode cX6_init 6 = .ok (.putfield 9, 3) := by decide +kernel
theorem dX6_init_9 : decode cX6_init 9 = .ok (.aload_n 0, 1) := by decide +kernel
theorem dX6_init_10 : decode cX6_init 10 = .ok (.iconst 0, 1) := by decide +kernel
theorem dX6_init_11 : decode cX6_init 11 = .ok (.putfield 15, 3) := by decide +kernel
theorem dX6_init_14 : decode cX6_init 14 = .ok (.aload_n 0, 1) := by decide +kernel
theorem dX6_init_15 : decode cX6_init 15 = .ok (.aload_n 1, 1) := by decide +kernel
theorem dX6_init_16 : decode cX6_init 16 = .ok (.putfield 18, 3) := by decide +kernel
theorem dX6_init_19 : decode cX6_init 19 = .ok (.aload_n 0, 1) := by decide +kernel
theorem dX6_init_20 : decode cX6_init 20 = .ok (.aload_n 2, 1) := by decide +kernel
theorem dX6_init_21 : decode cX6_init 21 = .ok (.putfield 22, 3) := by decide +kernel
theorem dX6_init_24 : decode cX6_init 24 = .ok (.return_, 1) := by decide +kernel
theorem dX6_proves_0 : decode cX6_proves 0 = .ok (.aload_n 0, 1) := by decide +kernel
theorem dX6_proves_1 : decode cX6_proves 1 = .ok (.iconst 1, 1) := by decide +kernel
theorem dX6_proves_2 : decode cX6_proves 2 = .ok (.putfield 15, 3) := by decide +kernel
theorem dX6_proves_5 : decode cX6_proves 5 = .ok (.aload_n 0, 1) := by decide +kernel
theorem dX6_proves_6 : decode cX6_proves 6 = .ok (.aload_n 1, 1) := by decide +kernel
theorem dX6_proves_7 : decode cX6_proves 7 = .ok (.iload_n 2, 1) := by decide +kernel
theorem dX6_proves_8 : decode cX6_proves 8 = .ok (.aload_n 3, 1) := by decide +kernel
theorem dX6_proves_9 : decode cX6_proves 9 = .ok (.iload 4, 2) := by decide +kernel
theorem dX6_proves_11 : decode cX6_proves 11 = .ok (.invokevirtual 26, 3) := by decide +kernel
theorem dX6_proves_14 : decode cX6_proves 14 = .ok (.lconst 0, 1) := by decide +kernel
theorem dX6_proves_15 : decode cX6_proves 15 = .ok (.lcmp, 1) := by decide +kernel
theorem dX6_proves_16 : decode cX6_proves 16 = .ok (.ifCond .le 7, 3) := by decide +kernel
theorem dX6_proves_19 : decode cX6_proves 19 = .ok (.iconst 1, 1) := by decide +kernel
theorem dX6_proves_20 : decode cX6_proves 20 = .ok (.goto 4, 3) := by decide +kernel
theorem dX6_proves_23 : decode cX6_proves 23 = .ok (.iconst 0, 1) := by decide +kernel
theorem dX6_proves_24 : decode cX6_proves 24 = .ok (.ireturn, 1) := by decide +kernel
theorem dX6_countOfProofs_0 : decode cX6_countOfProofs 0 = .ok (.aload_n 0, 1) := by decide +kernel
theorem dX6_countOfProofs_1 : decode cX6_countOfProofs 1 = .ok (.iconst 0, 1) := by decide +kernel
theorem dX6_countOfProofs_2 : decode cX6_countOfProofs 2 = .ok (.putfield 15, 3) := by decide +kernel
theorem dX6_countOfProofs_5 : decode cX6_countOfProofs 5 = .ok (.aload_n 0, 1) := by decide +kernel
theorem dX6_countOfProofs_6 : decode cX6_countOfProofs 6 = .ok (.aload_n 1, 1) := by decide +kernel
theorem dX6_countOfProofs_7 : decode cX6_countOfProofs 7 = .ok (.iload_n 2, 1) := by decide +kernel
theorem dX6_countOfProofs_8 : decode cX6_countOfProofs 8 = .ok (.aload_n 3, 1) := by decide +kernel
theorem dX6_countOfProofs_9 : decode cX6_countOfProofs 9 = .ok (.iload 4, 2) := by decide +kernel
theorem dX6_countOfProofs_11 : decode cX6_countOfProofs 11 = .ok (.invokevirtual 26, 3) := by decide +kernel
theorem dX6_countOfProofs_14 : decode cX6_countOfProofs 14 = .ok (.l2i, 1) := by decide +kernel
theorem dX6_countOfProofs_15 : decode cX6_countOfProofs 15 = .ok (.ireturn, 1) := by decide +kernel
theorem dX6_ask_0 : decode cX6_ask 0 = .ok (.aload_n 0, 1) := by decide +kernel
theorem dX6_ask_1 : decode cX6_ask 1 = .ok (.iload 4, 2) := by decide +kernel
theorem dX6_ask_3 : decode cX6_ask 3 = .ok (.putfield 9, 3) := by decide +kernel
theorem dX6_ask_6 : decode cX6_ask 6 = .ok (.aload_n 0, 1) := by decide +kernel
theorem dX6_ask_7 : decode cX6_ask 7 = .ok (.getfield 18, 3) := by decide +kernel
theorem dX6_ask_10 : decode cX6_ask 10 = .ok (.invokevirtual 30, 3) := by decide +kernel
theorem dX6_ask_13 : decode cX6_ask 13 = .ok (.aload_n 0, 1) := by decide +kernel
theorem dX6_ask_14 : decode cX6_ask 14 = .ok (.getfield 22, 3) := by decide +kernel
theorem dX6_ask_17 : decode cX6_ask 17 = .ok (.invokevirtual 35, 3) := by decide +kernel
theorem dX6_ask_20 : decode cX6_ask 20 = .ok (.aload_n 0, 1) := by decide +kernel
theorem dX6_ask_21 : decode cX6_ask 21 = .ok (.getfield 18, 3) := by decide +kernel
theorem dX6_ask_24 : decode cX6_ask 24 = .ok (.aload_n 3, 1) := by decide +kernel
theorem dX6_ask_25 : decode cX6_ask 25 = .ok (.invokevirtual 40, 3) := by decide +kernel
theorem dX6_ask_28 : decode cX6_ask 28 = .ok (.istore 5, 2) := by decide +kernel
theorem dX6_ask_30 : decode cX6_ask 30 = .ok (.aload_n 0, 1) := by decide +kernel
theorem dX6_ask_31 : decode cX6_ask 31 = .ok (.aload_n 0, 1) := by decide +kernel
theorem dX6_ask_32 : decode cX6_ask 32 = .ok (.getfield 18, 3) := by decide +kernel
theorem dX6_ask_35 : decode cX6_ask 35 = .ok (.aload_n 1, 1) := by decide +kernel
theorem dX6_ask_36 : decode cX6_ask 36 = .ok (.iload_n 2, 1) := by decide +kernel
theorem dX6_ask_37 : decode cX6_ask 37 = .ok (.invokevirtual 44, 3) := by decide +kernel
theorem dX6_ask_40 : decode cX6_ask 40 = .ok (.iload_n 2, 1) := by decide +kernel
theorem dX6_ask_41 : decode cX6_ask 41 = .ok (.iload 5, 2) := by decide +kernel
theorem dX6_ask_43 : decode cX6_ask 43 = .ok (.iconst 0, 1) := by decide +kernel
theorem dX6_ask_44 : decode cX6_ask 44 = .ok (.invokevirtual 48, 3) := by decide +kernel
theorem dX6_ask_47 : decode cX6_ask 47 = .ok (.lreturn, 1) := by decide +kernel
theorem dX6_prove_0 : decode cX6_prove 0 = .ok (.iload 5, 2) := by decide +kernel
theorem dX6_prove_2 : decode cX6_prove 2 = .ok (.bipush 12, 2) := by decide +kernel
theorem dX6_prove_4 : decode cX6_prove 4 = .ok (.if_icmp .gt 20, 3) := by decide +kernel
theorem dX6_prove_7 : decode cX6_prove 7 = .ok (.iload_n 3, 1) := by decide +kernel
theorem dX6_prove_8 : decode cX6_prove 8 = .ok (.bipush 11, 2) := by decide +kernel
theorem dX6_prove_10 : decode cX6_prove 10 = .ok (.if_icmp .gt 14, 3) := by decide +kernel
theorem dX6_prove_13 : decode cX6_prove 13 = .ok (.aload_n 0, 1) := by decide +kernel
theorem dX6_prove_14 : decode cX6_prove 14 = .ok (.getfield 9, 3) := by decide +kernel
theorem dX6_prove_17 : decode cX6_prove 17 = .ok (.ifCond .eq 9, 3) := by decide +kernel
theorem dX6_prove_20 : decode cX6_prove 20 = .ok (.iload_n 3, 1) := by decide +kernel
theorem dX6_prove_21 : decode cX6_prove 21 = .ok (.ifCond .ne 5, 3) := by decide +kernel
theorem dX6_prove_24 : decode cX6_prove 24 = .ok (.lconst 0, 1) := by decide +kernel
theorem dX6_prove_25 : decode cX6_prove 25 = .ok (.lreturn, 1) := by decide +kernel
theorem dX6_prove_26 : decode cX6_prove 26 = .ok (.aload_n 0, 1) := by decide +kernel
theorem dX6_prove_27 : decode cX6_prove 27 = .ok (.getfield 18, 3) := by decide +kernel
theorem dX6_prove_30 : decode cX6_prove 30 = .ok (.lload_n 1, 1) := by decide +kernel
theorem dX6_prove_31 : decode cX6_prove 31 = .ok (.iload_n 3, 1) := by decide +kernel
theorem dX6_prove_32 : decode cX6_prove 32 = .ok (.invokevirtual 54, 3) := by decide +kernel
theorem dX6_prove_35 : decode cX6_prove 35 = .ok (.aload_n 0, 1) := by decide +kernel
theorem dX6_prove_36 : decode cX6_prove 36 = .ok (.getfield 18, 3) := by decide +kernel
theorem dX6_prove_39 : decode cX6_prove 39 = .ok (.getfield 58, 3) := by decide +kernel
theorem dX6_prove_42 : decode cX6_prove 42 = .ok (.iload 4, 2) := by decide +kernel
theorem dX6_prove_44 : decode cX6_prove 44 = .ok (.bipush 31, 2) := by decide +kernel
theorem dX6_prove_46 : decode cX6_prove 46 = .ok (.iand, 1) := by decide +kernel
theorem dX6_prove_47 : decode cX6_prove 47 = .ok (.laload, 1) := by decide +kernel
theorem dX6_prove_48 : decode cX6_prove 48 = .ok (.lcmp, 1) := by decide +kernel
theorem dX6_prove_49 : decode cX6_prove 49 = .ok (.ifCond .eq 5, 3) := by decide +kernel
theorem dX6_prove_52 : decode cX6_prove 52 = .ok (.lconst 0, 1) := by decide +kernel
theorem dX6_prove_53 : decode cX6_prove 53 = .ok (.lreturn, 1) := by decide +kernel
theorem dX6_prove_54 : decode cX6_prove 54 = .ok (.lload_n 1, 1) := by decide +kernel
theorem dX6_prove_55 : decode cX6_prove 55 = .ok (.iload 4, 2) := by decide +kernel
theorem dX6_prove_57 : decode cX6_prove 57 = .ok (.invokestatic 62, 3) := by decide +kernel
theorem dX6_prove_60 : decode cX6_prove 60 = .ok (.lstore 6, 2) := by decide +kernel
theorem dX6_prove_62 : decode cX6_prove 62 = .ok (.aload_n 0, 1) := by decide +kernel
theorem dX6_prove_63 : decode cX6_prove 63 = .ok (.getfield 22, 3) := by decide +kernel
theorem dX6_prove_66 : decode cX6_prove 66 = .ok (.lload 6, 2) := by decide +kernel
theorem dX6_prove_68 : decode cX6_prove 68 = .ok (.invokevirtual 65, 3) := by decide +kernel
theorem dX6_prove_71 : decode cX6_prove 71 = .ok (.istore 8, 2) := by decide +kernel
theorem dX6_prove_73 : decode cX6_prove 73 = .ok (.iload 8, 2) := by decide +kernel
theorem dX6_prove_75 : decode cX6_prove 75 = .ok (.ifCond .lt 7, 3) := by decide +kernel
theorem dX6_prove_78 : decode cX6_prove 78 = .ok (.iload 8, 2) := by decide +kernel
theorem dX6_prove_80 : decode cX6_prove 80 = .ok (.i2l, 1) := by decide +kernel
theorem dX6_prove_81 : decode cX6_prove 81 = .ok (.lreturn, 1) := by decide +kernel
theorem dX6_prove_82 : decode cX6_prove 82 = .ok (.aload_n 0, 1) := by decide +kernel
theorem dX6_prove_83 : decode cX6_prove 83 = .ok (.lload_n 1, 1) := by decide +kernel
theorem dX6_prove_84 : decode cX6_prove 84 = .ok (.iload_n 3, 1) := by decide +kernel
theorem dX6_prove_85 : decode cX6_prove 85 = .ok (.iload 4, 2) := by decide +kernel
theorem dX6_prove_87 : decode cX6_prove 87 = .ok (.iload 5, 2) := by decide +kernel
theorem dX6_prove_89 : decode cX6_prove 89 = .ok (.invokevirtual 69, 3) := by decide +kernel
theorem dX6_prove_92 : decode cX6_prove 92 = .ok (.lstore 9, 2) := by decide +kernel
theorem dX6_prove_94 : decode cX6_prove 94 = .ok (.iconst 0, 1) := by decide +kernel
theorem dX6_prove_95 : decode cX6_prove 95 = .ok (.istore 11, 2) := by decide +kernel
theorem dX6_prove_97 : decode cX6_prove 97 = .ok (.iload 11, 2) := by decide +kernel
theorem dX6_prove_99 : decode cX6_prove 99 = .ok (.iload_n 3, 1) := by decide +kernel
theorem dX6_prove_100 : decode cX6_prove 100 = .ok (.if_icmp .ge 38, 3) := by decide +kernel
theorem dX6_prove_103 : decode cX6_prove 103 = .ok (.aload_n 0, 1) := by decide +kernel
theorem dX6_prove_104 : decode cX6_prove 104 = .ok (.lload 9, 2) := by decide +kernel
theorem dX6_prove_106 : decode cX6_prove 106 = .ok (.invokevirtual 72, 3) := by decide +kernel
theorem dX6_prove_109 : decode cX6_prove 109 = .ok (.ifCond .ne 29, 3) := by decide +kernel
theorem dX6_prove_112 : decode cX6_prove 112 = .ok (.aload_n 0, 1) := by decide +kernel
theorem dX6_prove_113 : decode cX6_prove 113 = .ok (.lload 9, 2) := by decide +kernel
theorem dX6_prove_115 : decode cX6_prove 115 = .ok (.aload_n 0, 1) := by decide +kernel
theorem dX6_prove_116 : decode cX6_prove 116 = .ok (.lload_n 1, 1) := by decide +kernel
theorem dX6_prove_117 : decode cX6_prove 117 = .ok (.iload_n 3, 1) := by decide +kernel
theorem dX6_prove_118 : decode cX6_prove 118 = .ok (.iload 4, 2) := by decide +kernel
theorem dX6_prove_120 : decode cX6_prove 120 = .ok (.iload 11, 2) := by decide +kernel
theorem dX6_prove_122 : decode cX6_prove 122 = .ok (.iload 5, 2) := by decide +kernel
theorem dX6_prove_124 : decode cX6_prove 124 = .ok (.invokevirtual 76, 3) := by decide +kernel
theorem dX6_prove_127 : decode cX6_prove 127 = .ok (.invokevirtual 80, 3) := by decide +kernel
theorem dX6_prove_130 : decode cX6_prove 130 = .ok (.lstore 9, 2) := by decide +kernel
theorem dX6_prove_132 : decode cX6_prove 132 = .ok (.iinc 11 1, 3) := by decide +kernel
theorem dX6_prove_135 : decode cX6_prove 135 = .ok (.goto (-38), 3) := by decide +kernel
theorem dX6_prove_138 : decode cX6_prove 138 = .ok (.aload_n 0, 1) := by decide +kernel
theorem dX6_prove_139 : decode cX6_prove 139 = .ok (.getfield 22, 3) := by decide +kernel
theorem dX6_prove_142 : decode cX6_prove 142 = .ok (.lload 6, 2) := by decide +kernel
theorem dX6_prove_144 : decode cX6_prove 144 = .ok (.lload 9, 2) := by decide +kernel
theorem dX6_prove_146 : decode cX6_prove 146 = .ok (.l2i, 1) := by decide +kernel
theorem dX6_prove_147 : decode cX6_prove 147 = .ok (.invokevirtual 84, 3) := by decide +kernel
theorem dX6_prove_150 : decode cX6_prove 150 = .ok (.lload 9, 2) := by decide +kernel
theorem dX6_prove_152 : decode cX6_prove 152 = .ok (.lreturn, 1) := by decide +kernel
theorem dX6_proveByGoal_0 : decode cX6_proveByGoal 0 = .ok (.aload_n 0, 1) := by decide +kernel
theorem dX6_proveByGoal_1 : decode cX6_proveByGoal 1 = .ok (.getfield 18, 3) := by decide +kernel
theorem dX6_proveByGoal_4 : decode cX6_proveByGoal 4 = .ok (.getfield 88, 3) := by decide +kernel
theorem dX6_proveByGoal_7 : decode cX6_proveByGoal 7 = .ok (.iload 4, 2) := by decide +kernel
theorem dX6_proveByGoal_9 : decode cX6_proveByGoal 9 = .ok (.bipush 31, 2) := by decide +kernel
theorem dX6_proveByGoal_11 : decode cX6_proveByGoal 11 = .ok (.iand, 1) := by decide +kernel
theorem dX6_proveByGoal_12 : decode cX6_proveByGoal 12 = .ok (.iaload, 1) := by decide +kernel
theorem dX6_proveByGoal_13 : decode cX6_proveByGoal 13 = .ok (.istore 6, 2) := by decide +kernel
theorem dX6_proveByGoal_15 : decode cX6_proveByGoal 15 = .ok (.aload_n 0, 1) := by decide +kernel
theorem dX6_proveByGoal_16 : decode cX6_proveByGoal 16 = .ok (.getfield 18, 3) := by decide +kernel
theorem dX6_proveByGoal_19 : decode cX6_proveByGoal 19 = .ok (.getfield 92, 3) := by decide +kernel
theorem dX6_proveByGoal_22 : decode cX6_proveByGoal 22 = .ok (.iload 4, 2) := by decide +kernel
theorem dX6_proveByGoal_24 : decode cX6_proveByGoal 24 = .ok (.bipush 31, 2) := by decide +kernel
theorem dX6_proveByGoal_26 : decode cX6_proveByGoal 26 = .ok (.iand, 1) := by decide +kernel
theorem dX6_proveByGoal_27 : decode cX6_proveByGoal 27 = .ok (.iaload, 1) := by decide +kernel
theorem dX6_proveByGoal_28 : decode cX6_proveByGoal 28 = .ok (.istore 7, 2) := by decide +kernel
theorem dX6_proveByGoal_30 : decode cX6_proveByGoal 30 = .ok (.aload_n 0, 1) := by decide +kernel
theorem dX6_proveByGoal_31 : decode cX6_proveByGoal 31 = .ok (.getfield 18, 3) := by decide +kernel
theorem dX6_proveByGoal_34 : decode cX6_proveByGoal 34 = .ok (.getfield 95, 3) := by decide +kernel
theorem dX6_proveByGoal_37 : decode cX6_proveByGoal 37 = .ok (.iload 4, 2) := by decide +kernel
theorem dX6_proveByGoal_39 : decode cX6_proveByGoal 39 = .ok (.bipush 31, 2) := by decide +kernel
theorem dX6_proveByGoal_41 : decode cX6_proveByGoal 41 = .ok (.iand, 1) := by decide +kernel
theorem dX6_proveByGoal_42 : decode cX6_proveByGoal 42 = .ok (.iaload, 1) := by decide +kernel
theorem dX6_proveByGoal_43 : decode cX6_proveByGoal 43 = .ok (.tableswitch 79 8 10 #[25, 46, 66], 25) := by decide +kernel
theorem dX6_proveByGoal_68 : decode cX6_proveByGoal 68 = .ok (.aload_n 0, 1) := by decide +kernel
theorem dX6_proveByGoal_69 : decode cX6_proveByGoal 69 = .ok (.lload_n 1, 1) := by decide +kernel
theorem dX6_proveByGoal_70 : decode cX6_proveByGoal 70 = .ok (.iload_n 3, 1) := by decide +kernel
theorem dX6_proveByGoal_71 : decode cX6_proveByGoal 71 = .ok (.iload 7, 2) := by decide +kernel
theorem dX6_proveByGoal_73 : decode cX6_proveByGoal 73 = .ok (.invokestatic 98, 3) := by decide +kernel
theorem dX6_proveByGoal_76 : decode cX6_proveByGoal 76 = .ok (.iload_n 3, 1) := by decide +kernel
theorem dX6_proveByGoal_77 : decode cX6_proveByGoal 77 = .ok (.iconst 1, 1) := by decide +kernel
theorem dX6_proveByGoal_78 : decode cX6_proveByGoal 78 = .ok (.iadd, 1) := by decide +kernel
theorem dX6_proveByGoal_79 : decode cX6_proveByGoal 79 = .ok (.iload 6, 2) := by decide +kernel
theorem dX6_proveByGoal_81 : decode cX6_proveByGoal 81 = .ok (.iload 5, 2) := by decide +kernel
theorem dX6_proveByGoal_83 : decode cX6_proveByGoal 83 = .ok (.iconst 1, 1) := by decide +kernel
theorem dX6_proveByGoal_84 : decode cX6_proveByGoal 84 = .ok (.iadd, 1) := by decide +kernel
theorem dX6_proveByGoal_85 : decode cX6_proveByGoal 85 = .ok (.invokevirtual 48, 3) := by decide +kernel
theorem dX6_proveByGoal_88 : decode cX6_proveByGoal 88 = .ok (.lreturn, 1) := by decide +kernel
theorem dX6_proveByGoal_89 : decode cX6_proveByGoal 89 = .ok (.aload_n 0, 1) := by decide +kernel
theorem dX6_proveByGoal_90 : decode cX6_proveByGoal 90 = .ok (.lload_n 1, 1) := by decide +kernel
theorem dX6_proveByGoal_91 : decode cX6_proveByGoal 91 = .ok (.iload 7, 2) := by decide +kernel
theorem dX6_proveByGoal_93 : decode cX6_proveByGoal 93 = .ok (.invokestatic 102, 3) := by decide +kernel
theorem dX6_proveByGoal_96 : decode cX6_proveByGoal 96 = .ok (.iload_n 3, 1) := by decide +kernel
theorem dX6_proveByGoal_97 : decode cX6_proveByGoal 97 = .ok (.iconst 1, 1) := by decide +kernel
theorem dX6_proveByGoal_98 : decode cX6_proveByGoal 98 = .ok (.iadd, 1) := by decide +kernel
theorem dX6_proveByGoal_99 : decode cX6_proveByGoal 99 = .ok (.iload 6, 2) := by decide +kernel
theorem dX6_proveByGoal_101 : decode cX6_proveByGoal 101 = .ok (.iload 5, 2) := by decide +kernel
theorem dX6_proveByGoal_103 : decode cX6_proveByGoal 103 = .ok (.iconst 1, 1) := by decide +kernel
theorem dX6_proveByGoal_104 : decode cX6_proveByGoal 104 = .ok (.iadd, 1) := by decide +kernel
theorem dX6_proveByGoal_105 : decode cX6_proveByGoal 105 = .ok (.invokevirtual 48, 3) := by decide +kernel
theorem dX6_proveByGoal_108 : decode cX6_proveByGoal 108 = .ok (.lreturn, 1) := by decide +kernel
theorem dX6_proveByGoal_109 : decode cX6_proveByGoal 109 = .ok (.aload_n 0, 1) := by decide +kernel
theorem dX6_proveByGoal_110 : decode cX6_proveByGoal 110 = .ok (.lload_n 1, 1) := by decide +kernel
theorem dX6_proveByGoal_111 : decode cX6_proveByGoal 111 = .ok (.iload_n 3, 1) := by decide +kernel
theorem dX6_proveByGoal_112 : decode cX6_proveByGoal 112 = .ok (.iload 6, 2) := by decide +kernel
theorem dX6_proveByGoal_114 : decode cX6_proveByGoal 114 = .ok (.iload 7, 2) := by decide +kernel
theorem dX6_proveByGoal_116 : decode cX6_proveByGoal 116 = .ok (.iload 5, 2) := by decide +kernel
theorem dX6_proveByGoal_118 : decode cX6_proveByGoal 118 = .ok (.invokevirtual 105, 3) := by decide +kernel
theorem dX6_proveByGoal_121 : decode cX6_proveByGoal 121 = .ok (.lreturn, 1) := by decide +kernel
theorem dX6_proveByGoal_122 : decode cX6_proveByGoal 122 = .ok (.iload_n 3, 1) := by decide +kernel
theorem dX6_proveByGoal_123 : decode cX6_proveByGoal 123 = .ok (.iconst 1, 1) := by decide +kernel
theorem dX6_proveByGoal_124 : decode cX6_proveByGoal 124 = .ok (.if_icmp .ne 17, 3) := by decide +kernel
theorem dX6_proveByGoal_127 : decode cX6_proveByGoal 127 = .ok (.lload_n 1, 1) := by decide +kernel
theorem dX6_proveByGoal_128 : decode cX6_proveByGoal 128 = .ok (.iconst 0, 1) := by decide +kernel
theorem dX6_proveByGoal_129 : decode cX6_proveByGoal 129 = .ok (.invokestatic 108, 3) := by decide +kernel
theorem dX6_proveByGoal_132 : decode cX6_proveByGoal 132 = .ok (.iload 4, 2) := by decide +kernel
theorem dX6_proveByGoal_134 : decode cX6_proveByGoal 134 = .ok (.if_icmp .ne 7, 3) := by decide +kernel
theorem dX6_proveByGoal_137 : decode cX6_proveByGoal 137 = .ok (.lconst 1, 1) := by decide +kernel
theorem dX6_proveByGoal_138 : decode cX6_proveByGoal 138 = .ok (.goto 4, 3) := by decide +kernel
theorem dX6_proveByGoal_141 : decode cX6_proveByGoal 141 = .ok (.lconst 0, 1) := by decide +kernel
theorem dX6_proveByGoal_142 : decode cX6_proveByGoal 142 = .ok (.lreturn, 1) := by decide +kernel
theorem dX6_proveParts_0 : decode cX6_proveParts 0 = .ok (.lconst 0, 1) := by decide +kernel
theorem dX6_proveParts_1 : decode cX6_proveParts 1 = .ok (.lstore 7, 2) := by decide +kernel
theorem dX6_proveParts_3 : decode cX6_proveParts 3 = .ok (.iconst 0, 1) := by decide +kernel
theorem dX6_proveParts_4 : decode cX6_proveParts 4 = .ok (.istore 9, 2) := by decide +kernel
theorem dX6_proveParts_6 : decode cX6_proveParts 6 = .ok (.iload 9, 2) := by decide +kernel
theorem dX6_proveParts_8 : decode cX6_proveParts 8 = .ok (.iload_n 3, 1) := by decide +kernel
theorem dX6_proveParts_9 : decode cX6_proveParts 9 = .ok (.if_icmp .gt 85, 3) := by decide +kernel
theorem dX6_proveParts_12 : decode cX6_proveParts 12 = .ok (.aload_n 0, 1) := by decide +kernel
theorem dX6_proveParts_13 : decode cX6_proveParts 13 = .ok (.lload 7, 2) := by decide +kernel
theorem dX6_proveParts_15 : decode cX6_proveParts 15 = .ok (.invokevirtual 72, 3) := by decide +kernel
theorem dX6_proveParts_18 : decode cX6_proveParts 18 = .ok (.ifCond .ne 76, 3) := by decide +kernel
theorem dX6_proveParts_21 : decode cX6_proveParts 21 = .ok (.aload_n 0, 1) := by decide +kernel
theorem dX6_proveParts_22 : decode cX6_proveParts 22 = .ok (.lload_n 1, 1) := by decide +kernel
theorem dX6_proveParts_23 : decode cX6_proveParts 23 = .ok (.iconst 0, 1) := by decide +kernel
theorem dX6_proveParts_24 : decode cX6_proveParts 24 = .ok (.iload 9, 2) := by decide +kernel
theorem dX6_proveParts_26 : decode cX6_proveParts 26 = .ok (.invokestatic 112, 3) := by decide +kernel
theorem dX6_proveParts_29 : decode cX6_proveParts 29 = .ok (.iload 9, 2) := by decide +kernel
theorem dX6_proveParts_31 : decode cX6_proveParts 31 = .ok (.iload 4, 2) := by decide +kernel
theorem dX6_proveParts_33 : decode cX6_proveParts 33 = .ok (.iload 6, 2) := by decide +kernel
theorem dX6_proveParts_35 : decode cX6_proveParts 35 = .ok (.iconst 1, 1) := by decide +kernel
theorem dX6_proveParts_36 : decode cX6_proveParts 36 = .ok (.iadd, 1) := by decide +kernel
theorem dX6_proveParts_37 : decode cX6_proveParts 37 = .ok (.invokevirtual 48, 3) := by decide +kernel
theorem dX6_proveParts_40 : decode cX6_proveParts 40 = .ok (.lstore 10, 2) := by decide +kernel
theorem dX6_proveParts_42 : decode cX6_proveParts 42 = .ok (.lload 10, 2) := by decide +kernel
theorem dX6_proveParts_44 : decode cX6_proveParts 44 = .ok (.lconst 0, 1) := by decide +kernel
theorem dX6_proveParts_45 : decode cX6_proveParts 45 = .ok (.lcmp, 1) := by decide +kernel
theorem dX6_proveParts_46 : decode cX6_proveParts 46 = .ok (.ifCond .le 42, 3) := by decide +kernel
theorem dX6_proveParts_49 : decode cX6_proveParts 49 = .ok (.aload_n 0, 1) := by decide +kernel
theorem dX6_proveParts_50 : decode cX6_proveParts 50 = .ok (.lload_n 1, 1) := by decide +kernel
theorem dX6_proveParts_51 : decode cX6_proveParts 51 = .ok (.iload 9, 2) := by decide +kernel
theorem dX6_proveParts_53 : decode cX6_proveParts 53 = .ok (.iload_n 3, 1) := by decide +kernel
theorem dX6_proveParts_54 : decode cX6_proveParts 54 = .ok (.invokestatic 112, 3) := by decide +kernel
theorem dX6_proveParts_57 : decode cX6_proveParts 57 = .ok (.iload_n 3, 1) := by decide +kernel
theorem dX6_proveParts_58 : decode cX6_proveParts 58 = .ok (.iload 9, 2) := by decide +kernel
theorem dX6_proveParts_60 : decode cX6_proveParts 60 = .ok (.isub, 1) := by decide +kernel
theorem dX6_proveParts_61 : decode cX6_proveParts 61 = .ok (.iload 5, 2) := by decide +kernel
theorem dX6_proveParts_63 : decode cX6_proveParts 63 = .ok (.iload 6, 2) := by decide +kernel
theorem dX6_proveParts_65 : decode cX6_proveParts 65 = .ok (.iconst 1, 1) := by decide +kernel
theorem dX6_proveParts_66 : decode cX6_proveParts 66 = .ok (.iadd, 1) := by decide +kernel
theorem dX6_proveParts_67 : decode cX6_proveParts 67 = .ok (.invokevirtual 48, 3) := by decide +kernel
theorem dX6_proveParts_70 : decode cX6_proveParts 70 = .ok (.lstore 12, 2) := by decide +kernel
theorem dX6_proveParts_72 : decode cX6_proveParts 72 = .ok (.aload_n 0, 1) := by decide +kernel
theorem dX6_proveParts_73 : decode cX6_proveParts 73 = .ok (.lload 7, 2) := by decide +kernel
theorem dX6_proveParts_75 : decode cX6_proveParts 75 = .ok (.aload_n 0, 1) := by decide +kernel
theorem dX6_proveParts_76 : decode cX6_proveParts 76 = .ok (.lload 10, 2) := by decide +kernel
theorem dX6_proveParts_78 : decode cX6_proveParts 78 = .ok (.lload 12, 2) := by decide +kernel
theorem dX6_proveParts_80 : decode cX6_proveParts 80 = .ok (.invokevirtual 115, 3) := by decide +kernel
theorem dX6_proveParts_83 : decode cX6_proveParts 83 = .ok (.invokevirtual 80, 3) := by decide +kernel
theorem dX6_proveParts_86 : decode cX6_proveParts 86 = .ok (.lstore 7, 2) := by decide +kernel
theorem dX6_proveParts_88 : decode cX6_proveParts 88 = .ok (.iinc 9 1, 3) := by decide +kernel
theorem dX6_proveParts_91 : decode cX6_proveParts 91 = .ok (.goto (-85), 3) := by decide +kernel
theorem dX6_proveParts_94 : decode cX6_proveParts 94 = .ok (.lload 7, 2) := by decide +kernel
theorem dX6_proveParts_96 : decode cX6_proveParts 96 = .ok (.lreturn, 1) := by decide +kernel
theorem dX6_proveByPlace_0 : decode cX6_proveByPlace 0 = .ok (.lload_n 1, 1) := by decide +kernel
theorem dX6_proveByPlace_1 : decode cX6_proveByPlace 1 = .ok (.iload 5, 2) := by decide +kernel
theorem dX6_proveByPlace_3 : decode cX6_proveByPlace 3 = .ok (.invokestatic 108, 3) := by decide +kernel
theorem dX6_proveByPlace_6 : decode cX6_proveByPlace 6 = .ok (.bipush 31, 2) := by decide +kernel
theorem dX6_proveByPlace_8 : decode cX6_proveByPlace 8 = .ok (.iand, 1) := by decide +kernel
theorem dX6_proveByPlace_9 : decode cX6_proveByPlace 9 = .ok (.istore 7, 2) := by decide +kernel
theorem dX6_proveByPlace_11 : decode cX6_proveByPlace 11 = .ok (.aload_n 0, 1) := by decide +kernel
theorem dX6_proveByPlace_12 : decode cX6_proveByPlace 12 = .ok (.getfield 18, 3) := by decide +kernel
theorem dX6_proveByPlace_15 : decode cX6_proveByPlace 15 = .ok (.getfield 95, 3) := by decide +kernel
theorem dX6_proveByPlace_18 : decode cX6_proveByPlace 18 = .ok (.iload 7, 2) := by decide +kernel
theorem dX6_proveByPlace_20 : decode cX6_proveByPlace 20 = .ok (.iaload, 1) := by decide +kernel
theorem dX6_proveByPlace_21 : decode cX6_proveByPlace 21 = .ok (.istore 8, 2) := by decide +kernel
theorem dX6_proveByPlace_23 : decode cX6_proveByPlace 23 = .ok (.iload 8, 2) := by decide +kernel
theorem dX6_proveByPlace_25 : decode cX6_proveByPlace 25 = .ok (.bipush 10, 2) := by decide +kernel
theorem dX6_proveByPlace_27 : decode cX6_proveByPlace 27 = .ok (.if_icmp .ne 57, 3) := by decide +kernel
theorem dX6_proveByPlace_30 : decode cX6_proveByPlace 30 = .ok (.aload_n 0, 1) := by decide +kernel
theorem dX6_proveByPlace_31 : decode cX6_proveByPlace 31 = .ok (.getfield 18, 3) := by decide +kernel
theorem dX6_proveByPlace_34 : decode cX6_proveByPlace 34 = .ok (.getfield 88, 3) := by decide +kernel
theorem dX6_proveByPlace_37 : decode cX6_proveByPlace 37 = .ok (.iload 7, 2) := by decide +kernel
theorem dX6_proveByPlace_39 : decode cX6_proveByPlace 39 = .ok (.iaload, 1) := by decide +kernel
theorem dX6_proveByPlace_40 : decode cX6_proveByPlace 40 = .ok (.i2l, 1) := by decide +kernel
theorem dX6_proveByPlace_41 : decode cX6_proveByPlace 41 = .ok (.iconst 1, 1) := by decide +kernel
theorem dX6_proveByPlace_42 : decode cX6_proveByPlace 42 = .ok (.aload_n 0, 1) := by decide +kernel
theorem dX6_proveByPlace_43 : decode cX6_proveByPlace 43 = .ok (.getfield 18, 3) := by decide +kernel
theorem dX6_proveByPlace_46 : decode cX6_proveByPlace 46 = .ok (.getfield 92, 3) := by decide +kernel
theorem dX6_proveByPlace_49 : decode cX6_proveByPlace 49 = .ok (.iload 7, 2) := by decide +kernel
theorem dX6_proveByPlace_51 : decode cX6_proveByPlace 51 = .ok (.iaload, 1) := by decide +kernel
theorem dX6_proveByPlace_52 : decode cX6_proveByPlace 52 = .ok (.invokestatic 98, 3) := by decide +kernel
theorem dX6_proveByPlace_55 : decode cX6_proveByPlace 55 = .ok (.lstore 9, 2) := by decide +kernel
theorem dX6_proveByPlace_57 : decode cX6_proveByPlace 57 = .ok (.aload_n 0, 1) := by decide +kernel
theorem dX6_proveByPlace_58 : decode cX6_proveByPlace 58 = .ok (.lload_n 1, 1) := by decide +kernel
theorem dX6_proveByPlace_59 : decode cX6_proveByPlace 59 = .ok (.iload 5, 2) := by decide +kernel
theorem dX6_proveByPlace_61 : decode cX6_proveByPlace 61 = .ok (.iload 5, 2) := by decide +kernel
theorem dX6_proveByPlace_63 : decode cX6_proveByPlace 63 = .ok (.iconst 1, 1) := by decide +kernel
theorem dX6_proveByPlace_64 : decode cX6_proveByPlace 64 = .ok (.iadd, 1) := by decide +kernel
theorem dX6_proveByPlace_65 : decode cX6_proveByPlace 65 = .ok (.lload 9, 2) := by decide +kernel
theorem dX6_proveByPlace_67 : decode cX6_proveByPlace 67 = .ok (.iconst 2, 1) := by decide +kernel
theorem dX6_proveByPlace_68 : decode cX6_proveByPlace 68 = .ok (.invokestatic 120, 3) := by decide +kernel
theorem dX6_proveByPlace_71 : decode cX6_proveByPlace 71 = .ok (.iload_n 3, 1) := by decide +kernel
theorem dX6_proveByPlace_72 : decode cX6_proveByPlace 72 = .ok (.iconst 1, 1) := by decide +kernel
theorem dX6_proveByPlace_73 : decode cX6_proveByPlace 73 = .ok (.iadd, 1) := by decide +kernel
theorem dX6_proveByPlace_74 : decode cX6_proveByPlace 74 = .ok (.iload 4, 2) := by decide +kernel
theorem dX6_proveByPlace_76 : decode cX6_proveByPlace 76 = .ok (.iload 6, 2) := by decide +kernel
theorem dX6_proveByPlace_78 : decode cX6_proveByPlace 78 = .ok (.iconst 1, 1) := by decide +kernel
theorem dX6_proveByPlace_79 : decode cX6_proveByPlace 79 = .ok (.iadd, 1) := by decide +kernel
theorem dX6_proveByPlace_80 : decode cX6_proveByPlace 80 = .ok (.invokevirtual 48, 3) := by decide +kernel
theorem dX6_proveByPlace_83 : decode cX6_proveByPlace 83 = .ok (.lreturn, 1) := by decide +kernel
theorem dX6_proveByPlace_84 : decode cX6_proveByPlace 84 = .ok (.lconst 0, 1) := by decide +kernel
theorem dX6_proveByPlace_85 : decode cX6_proveByPlace 85 = .ok (.lstore 9, 2) := by decide +kernel
theorem dX6_proveByPlace_87 : decode cX6_proveByPlace 87 = .ok (.iload 8, 2) := by decide +kernel
theorem dX6_proveByPlace_89 : decode cX6_proveByPlace 89 = .ok (.bipush 8, 2) := by decide +kernel
theorem dX6_proveByPlace_91 : decode cX6_proveByPlace 91 = .ok (.if_icmp .ne 55, 3) := by decide +kernel
theorem dX6_proveByPlace_94 : decode cX6_proveByPlace 94 = .ok (.iload 5, 2) := by decide +kernel
theorem dX6_proveByPlace_96 : decode cX6_proveByPlace 96 = .ok (.iconst 1, 1) := by decide +kernel
theorem dX6_proveByPlace_97 : decode cX6_proveByPlace 97 = .ok (.iadd, 1) := by decide +kernel
theorem dX6_proveByPlace_98 : decode cX6_proveByPlace 98 = .ok (.istore 11, 2) := by decide +kernel
theorem dX6_proveByPlace_100 : decode cX6_proveByPlace 100 = .ok (.iload 11, 2) := by decide +kernel
theorem dX6_proveByPlace_102 : decode cX6_proveByPlace 102 = .ok (.iload_n 3, 1) := by decide +kernel
theorem dX6_proveByPlace_103 : decode cX6_proveByPlace 103 = .ok (.if_icmp .gt 40, 3) := by decide +kernel
theorem dX6_proveByPlace_106 : decode cX6_proveByPlace 106 = .ok (.aload_n 0, 1) := by decide +kernel
theorem dX6_proveByPlace_107 : decode cX6_proveByPlace 107 = .ok (.lload 9, 2) := by decide +kernel
theorem dX6_proveByPlace_109 : decode cX6_proveByPlace 109 = .ok (.invokevirtual 72, 3) := by decide +kernel
theorem dX6_proveByPlace_112 : decode cX6_proveByPlace 112 = .ok (.ifCond .ne 31, 3) := by decide +kernel
theorem dX6_proveByPlace_115 : decode cX6_proveByPlace 115 = .ok (.aload_n 0, 1) := by decide +kernel
theorem dX6_proveByPlace_116 : decode cX6_proveByPlace 116 = .ok (.lload 9, 2) := by decide +kernel
theorem dX6_proveByPlace_118 : decode cX6_proveByPlace 118 = .ok (.aload_n 0, 1) := by decide +kernel
theorem dX6_proveByPlace_119 : decode cX6_proveByPlace 119 = .ok (.lload_n 1, 1) := by decide +kernel
theorem dX6_proveByPlace_120 : decode cX6_proveByPlace 120 = .ok (.iload_n 3, 1) := by decide +kernel
theorem dX6_proveByPlace_121 : decode cX6_proveByPlace 121 = .ok (.iload 4, 2) := by decide +kernel
theorem dX6_proveByPlace_123 : decode cX6_proveByPlace 123 = .ok (.iload 5, 2) := by decide +kernel
theorem dX6_proveByPlace_125 : decode cX6_proveByPlace 125 = .ok (.iload 11, 2) := by decide +kernel
theorem dX6_proveByPlace_127 : decode cX6_proveByPlace 127 = .ok (.iload 6, 2) := by decide +kernel
theorem dX6_proveByPlace_129 : decode cX6_proveByPlace 129 = .ok (.invokevirtual 124, 3) := by decide +kernel
theorem dX6_proveByPlace_132 : decode cX6_proveByPlace 132 = .ok (.invokevirtual 80, 3) := by decide +kernel
theorem dX6_proveByPlace_135 : decode cX6_proveByPlace 135 = .ok (.lstore 9, 2) := by decide +kernel
theorem dX6_proveByPlace_137 : decode cX6_proveByPlace 137 = .ok (.iinc 11 1, 3) := by decide +kernel
theorem dX6_proveByPlace_140 : decode cX6_proveByPlace 140 = .ok (.goto (-40), 3) := by decide +kernel
theorem dX6_proveByPlace_143 : decode cX6_proveByPlace 143 = .ok (.goto 57, 3) := by decide +kernel
theorem dX6_proveByPlace_146 : decode cX6_proveByPlace 146 = .ok (.iload 8, 2) := by decide +kernel
theorem dX6_proveByPlace_148 : decode cX6_proveByPlace 148 = .ok (.bipush 9, 2) := by decide +kernel
theorem dX6_proveByPlace_150 : decode cX6_proveByPlace 150 = .ok (.if_icmp .ne 50, 3) := by decide +kernel
theorem dX6_proveByPlace_153 : decode cX6_proveByPlace 153 = .ok (.iconst 0, 1) := by decide +kernel
theorem dX6_proveByPlace_154 : decode cX6_proveByPlace 154 = .ok (.istore 11, 2) := by decide +kernel
theorem dX6_proveByPlace_156 : decode cX6_proveByPlace 156 = .ok (.iload 11, 2) := by decide +kernel
theorem dX6_proveByPlace_158 : decode cX6_proveByPlace 158 = .ok (.iload 5, 2) := by decide +kernel
theorem dX6_proveByPlace_160 : decode cX6_proveByPlace 160 = .ok (.if_icmp .gt 40, 3) := by decide +kernel
theorem dX6_proveByPlace_163 : decode cX6_proveByPlace 163 = .ok (.aload_n 0, 1) := by decide +kernel
theorem dX6_proveByPlace_164 : decode cX6_proveByPlace 164 = .ok (.lload 9, 2) := by decide +kernel
theorem dX6_proveByPlace_166 : decode cX6_proveByPlace 166 = .ok (.invokevirtual 72, 3) := by decide +kernel
theorem dX6_proveByPlace_169 : decode cX6_proveByPlace 169 = .ok (.ifCond .ne 31, 3) := by decide +kernel
theorem dX6_proveByPlace_172 : decode cX6_proveByPlace 172 = .ok (.aload_n 0, 1) := by decide +kernel
theorem dX6_proveByPlace_173 : decode cX6_proveByPlace 173 = .ok (.lload 9, 2) := by decide +kernel
theorem dX6_proveByPlace_175 : decode cX6_proveByPlace 175 = .ok (.aload_n 0, 1) := by decide +kernel
theorem dX6_proveByPlace_176 : decode cX6_proveByPlace 176 = .ok (.lload_n 1, 1) := by decide +kernel
theorem dX6_proveByPlace_177 : decode cX6_proveByPlace 177 = .ok (.iload_n 3, 1) := by decide +kernel
theorem dX6_proveByPlace_178 : decode cX6_proveByPlace 178 = .ok (.iload 4, 2) := by decide +kernel
theorem dX6_proveByPlace_180 : decode cX6_proveByPlace 180 = .ok (.iload 5, 2) := by decide +kernel
theorem dX6_proveByPlace_182 : decode cX6_proveByPlace 182 = .ok (.iload 11, 2) := by decide +kernel
theorem dX6_proveByPlace_184 : decode cX6_proveByPlace 184 = .ok (.iload 6, 2) := by decide +kernel
theorem dX6_proveByPlace_186 : decode cX6_proveByPlace 186 = .ok (.invokevirtual 124, 3) := by decide +kernel
theorem dX6_proveByPlace_189 : decode cX6_proveByPlace 189 = .ok (.invokevirtual 80, 3) := by decide +kernel
theorem dX6_proveByPlace_192 : decode cX6_proveByPlace 192 = .ok (.lstore 9, 2) := by decide +kernel
theorem dX6_proveByPlace_194 : decode cX6_proveByPlace 194 = .ok (.iinc 11 1, 3) := by decide +kernel
theorem dX6_proveByPlace_197 : decode cX6_proveByPlace 197 = .ok (.goto (-41), 3) := by decide +kernel
theorem dX6_proveByPlace_200 : decode cX6_proveByPlace 200 = .ok (.lload 9, 2) := by decide +kernel
theorem dX6_proveByPlace_202 : decode cX6_proveByPlace 202 = .ok (.lreturn, 1) := by decide +kernel
theorem dX6_proveUse_0 : decode cX6_proveUse 0 = .ok (.lload_n 1, 1) := by decide +kernel
theorem dX6_proveUse_1 : decode cX6_proveUse 1 = .ok (.iload 5, 2) := by decide +kernel
theorem dX6_proveUse_3 : decode cX6_proveUse 3 = .ok (.invokestatic 108, 3) := by decide +kernel
theorem dX6_proveUse_6 : decode cX6_proveUse 6 = .ok (.bipush 31, 2) := by decide +kernel
theorem dX6_proveUse_8 : decode cX6_proveUse 8 = .ok (.iand, 1) := by decide +kernel
theorem dX6_proveUse_9 : decode cX6_proveUse 9 = .ok (.istore 8, 2) := by decide +kernel
theorem dX6_proveUse_11 : decode cX6_proveUse 11 = .ok (.iload 6, 2) := by decide +kernel
theorem dX6_proveUse_13 : decode cX6_proveUse 13 = .ok (.iload 5, 2) := by decide +kernel
theorem dX6_proveUse_15 : decode cX6_proveUse 15 = .ok (.if_icmp .le 7, 3) := by decide +kernel
theorem dX6_proveUse_18 : decode cX6_proveUse 18 = .ok (.iconst 1, 1) := by decide +kernel
theorem dX6_proveUse_19 : decode cX6_proveUse 19 = .ok (.goto 4, 3) := by decide +kernel
theorem dX6_proveUse_22 : decode cX6_proveUse 22 = .ok (.iconst 0, 1) := by decide +kernel
theorem dX6_proveUse_23 : decode cX6_proveUse 23 = .ok (.istore 9, 2) := by decide +kernel
theorem dX6_proveUse_25 : decode cX6_proveUse 25 = .ok (.iload 9, 2) := by decide +kernel
theorem dX6_proveUse_27 : decode cX6_proveUse 27 = .ok (.ifCond .eq 10, 3) := by decide +kernel
theorem dX6_proveUse_30 : decode cX6_proveUse 30 = .ok (.iload 5, 2) := by decide +kernel
theorem dX6_proveUse_32 : decode cX6_proveUse 32 = .ok (.iconst 1, 1) := by decide +kernel
theorem dX6_proveUse_33 : decode cX6_proveUse 33 = .ok (.iadd, 1) := by decide +kernel
theorem dX6_proveUse_34 : decode cX6_proveUse 34 = .ok (.goto 5, 3) := by decide +kernel
theorem dX6_proveUse_37 : decode cX6_proveUse 37 = .ok (.iload 6, 2) := by decide +kernel
theorem dX6_proveUse_39 : decode cX6_proveUse 39 = .ok (.istore 10, 2) := by decide +kernel
theorem dX6_proveUse_41 : decode cX6_proveUse 41 = .ok (.iload 9, 2) := by decide +kernel
theorem dX6_proveUse_43 : decode cX6_proveUse 43 = .ok (.ifCond .eq 8, 3) := by decide +kernel
theorem dX6_proveUse_46 : decode cX6_proveUse 46 = .ok (.iload 6, 2) := by decide +kernel
theorem dX6_proveUse_48 : decode cX6_proveUse 48 = .ok (.goto 5, 3) := by decide +kernel
theorem dX6_proveUse_51 : decode cX6_proveUse 51 = .ok (.iload 5, 2) := by decide +kernel
theorem dX6_proveUse_53 : decode cX6_proveUse 53 = .ok (.istore 11, 2) := by decide +kernel
theorem dX6_proveUse_55 : decode cX6_proveUse 55 = .ok (.aload_n 0, 1) := by decide +kernel
theorem dX6_proveUse_56 : decode cX6_proveUse 56 = .ok (.lload_n 1, 1) := by decide +kernel
theorem dX6_proveUse_57 : decode cX6_proveUse 57 = .ok (.iload 10, 2) := by decide +kernel
theorem dX6_proveUse_59 : decode cX6_proveUse 59 = .ok (.iload 11, 2) := by decide +kernel
theorem dX6_proveUse_61 : decode cX6_proveUse 61 = .ok (.invokestatic 112, 3) := by decide +kernel
theorem dX6_proveUse_64 : decode cX6_proveUse 64 = .ok (.iload 11, 2) := by decide +kernel
theorem dX6_proveUse_66 : decode cX6_proveUse 66 = .ok (.iload 10, 2) := by decide +kernel
theorem dX6_proveUse_68 : decode cX6_proveUse 68 = .ok (.isub, 1) := by decide +kernel
theorem dX6_proveUse_69 : decode cX6_proveUse 69 = .ok (.aload_n 0, 1) := by decide +kernel
theorem dX6_proveUse_70 : decode cX6_proveUse 70 = .ok (.getfield 18, 3) := by decide +kernel
theorem dX6_proveUse_73 : decode cX6_proveUse 73 = .ok (.getfield 92, 3) := by decide +kernel
theorem dX6_proveUse_76 : decode cX6_proveUse 76 = .ok (.iload 8, 2) := by decide +kernel
theorem dX6_proveUse_78 : decode cX6_proveUse 78 = .ok (.iaload, 1) := by decide +kernel
theorem dX6_proveUse_79 : decode cX6_proveUse 79 = .ok (.iload 7, 2) := by decide +kernel
theorem dX6_proveUse_81 : decode cX6_proveUse 81 = .ok (.iconst 1, 1) := by decide +kernel
theorem dX6_proveUse_82 : decode cX6_proveUse 82 = .ok (.iadd, 1) := by decide +kernel
theorem dX6_proveUse_83 : decode cX6_proveUse 83 = .ok (.invokevirtual 48, 3) := by decide +kernel
theorem dX6_proveUse_86 : decode cX6_proveUse 86 = .ok (.lstore 12, 2) := by decide +kernel
theorem dX6_proveUse_88 : decode cX6_proveUse 88 = .ok (.lload 12, 2) := by decide +kernel
theorem dX6_proveUse_90 : decode cX6_proveUse 90 = .ok (.lconst 0, 1) := by decide +kernel
theorem dX6_proveUse_91 : decode cX6_proveUse 91 = .ok (.lcmp, 1) := by decide +kernel
theorem dX6_proveUse_92 : decode cX6_proveUse 92 = .ok (.ifCond .ne 5, 3) := by decide +kernel
theorem dX6_proveUse_95 : decode cX6_proveUse 95 = .ok (.lconst 0, 1) := by decide +kernel
theorem dX6_proveUse_96 : decode cX6_proveUse 96 = .ok (.lreturn, 1) := by decide +kernel
theorem dX6_proveUse_97 : decode cX6_proveUse 97 = .ok (.iload 9, 2) := by decide +kernel
theorem dX6_proveUse_99 : decode cX6_proveUse 99 = .ok (.ifCond .eq 8, 3) := by decide +kernel
theorem dX6_proveUse_102 : decode cX6_proveUse 102 = .ok (.iload 5, 2) := by decide +kernel
theorem dX6_proveUse_104 : decode cX6_proveUse 104 = .ok (.goto 5, 3) := by decide +kernel
theorem dX6_proveUse_107 : decode cX6_proveUse 107 = .ok (.iload 10, 2) := by decide +kernel
theorem dX6_proveUse_109 : decode cX6_proveUse 109 = .ok (.istore 14, 2) := by decide +kernel
theorem dX6_proveUse_111 : decode cX6_proveUse 111 = .ok (.iload 9, 2) := by decide +kernel
theorem dX6_proveUse_113 : decode cX6_proveUse 113 = .ok (.ifCond .eq 8, 3) := by decide +kernel
theorem dX6_proveUse_116 : decode cX6_proveUse 116 = .ok (.iload 11, 2) := by decide +kernel
theorem dX6_proveUse_118 : decode cX6_proveUse 118 = .ok (.goto 7, 3) := by decide +kernel
theorem dX6_proveUse_121 : decode cX6_proveUse 121 = .ok (.iload 5, 2) := by decide +kernel
theorem dX6_proveUse_123 : decode cX6_proveUse 123 = .ok (.iconst 1, 1) := by decide +kernel
theorem dX6_proveUse_124 : decode cX6_proveUse 124 = .ok (.iadd, 1) := by decide +kernel
theorem dX6_proveUse_125 : decode cX6_proveUse 125 = .ok (.istore 15, 2) := by decide +kernel
theorem dX6_proveUse_127 : decode cX6_proveUse 127 = .ok (.lload_n 1, 1) := by decide +kernel
theorem dX6_proveUse_128 : decode cX6_proveUse 128 = .ok (.iload 14, 2) := by decide +kernel
theorem dX6_proveUse_130 : decode cX6_proveUse 130 = .ok (.iload 15, 2) := by decide +kernel
theorem dX6_proveUse_132 : decode cX6_proveUse 132 = .ok (.aload_n 0, 1) := by decide +kernel
theorem dX6_proveUse_133 : decode cX6_proveUse 133 = .ok (.getfield 18, 3) := by decide +kernel
theorem dX6_proveUse_136 : decode cX6_proveUse 136 = .ok (.getfield 88, 3) := by decide +kernel
theorem dX6_proveUse_139 : decode cX6_proveUse 139 = .ok (.iload 8, 2) := by decide +kernel
theorem dX6_proveUse_141 : decode cX6_proveUse 141 = .ok (.iaload, 1) := by decide +kernel
theorem dX6_proveUse_142 : decode cX6_proveUse 142 = .ok (.i2l, 1) := by decide +kernel
theorem dX6_proveUse_143 : decode cX6_proveUse 143 = .ok (.iconst 1, 1) := by decide +kernel
theorem dX6_proveUse_144 : decode cX6_proveUse 144 = .ok (.invokestatic 120, 3) := by decide +kernel
theorem dX6_proveUse_147 : decode cX6_proveUse 147 = .ok (.lstore 16, 2) := by decide +kernel
theorem dX6_proveUse_149 : decode cX6_proveUse 149 = .ok (.aload_n 0, 1) := by decide +kernel
theorem dX6_proveUse_150 : decode cX6_proveUse 150 = .ok (.lload 12, 2) := by decide +kernel
theorem dX6_proveUse_152 : decode cX6_proveUse 152 = .ok (.aload_n 0, 1) := by decide +kernel
theorem dX6_proveUse_153 : decode cX6_proveUse 153 = .ok (.lload 16, 2) := by decide +kernel
theorem dX6_proveUse_155 : decode cX6_proveUse 155 = .ok (.iload_n 3, 1) := by decide +kernel
theorem dX6_proveUse_156 : decode cX6_proveUse 156 = .ok (.iload 11, 2) := by decide +kernel
theorem dX6_proveUse_158 : decode cX6_proveUse 158 = .ok (.iload 10, 2) := by decide +kernel
theorem dX6_proveUse_160 : decode cX6_proveUse 160 = .ok (.isub, 1) := by decide +kernel
theorem dX6_proveUse_161 : decode cX6_proveUse 161 = .ok (.isub, 1) := by decide +kernel
theorem dX6_proveUse_162 : decode cX6_proveUse 162 = .ok (.iload 4, 2) := by decide +kernel
theorem dX6_proveUse_164 : decode cX6_proveUse 164 = .ok (.iload 7, 2) := by decide +kernel
theorem dX6_proveUse_166 : decode cX6_proveUse 166 = .ok (.iconst 1, 1) := by decide +kernel
theorem dX6_proveUse_167 : decode cX6_proveUse 167 = .ok (.iadd, 1) := by decide +kernel
theorem dX6_proveUse_168 : decode cX6_proveUse 168 = .ok (.invokevirtual 48, 3) := by decide +kernel
theorem dX6_proveUse_171 : decode cX6_proveUse 171 = .ok (.invokevirtual 115, 3) := by decide +kernel
theorem dX6_proveUse_174 : decode cX6_proveUse 174 = .ok (.lreturn, 1) := by decide +kernel
theorem dX6_isEnough_0 : decode cX6_isEnough 0 = .ok (.aload_n 0, 1) := by decide +kernel
theorem dX6_isEnough_1 : decode cX6_isEnough 1 = .ok (.getfield 15, 3) := by decide +kernel
theorem dX6_isEnough_4 : decode cX6_isEnough 4 = .ok (.ifCond .eq 13, 3) := by decide +kernel
theorem dX6_isEnough_7 : decode cX6_isEnough 7 = .ok (.lload_n 1, 1) := by decide +kernel
theorem dX6_isEnough_8 : decode cX6_isEnough 8 = .ok (.lconst 0, 1) := by decide +kernel
theorem dX6_isEnough_9 : decode cX6_isEnough 9 = .ok (.lcmp, 1) := by decide +kernel
theorem dX6_isEnough_10 : decode cX6_isEnough 10 = .ok (.ifCond .le 7, 3) := by decide +kernel
theorem dX6_isEnough_13 : decode cX6_isEnough 13 = .ok (.iconst 1, 1) := by decide +kernel
theorem dX6_isEnough_14 : decode cX6_isEnough 14 = .ok (.goto 4, 3) := by decide +kernel
theorem dX6_isEnough_17 : decode cX6_isEnough 17 = .ok (.iconst 0, 1) := by decide +kernel
theorem dX6_isEnough_18 : decode cX6_isEnough 18 = .ok (.ireturn, 1) := by decide +kernel
theorem dX6_plus_0 : decode cX6_plus 0 = .ok (.aload_n 0, 1) := by decide +kernel
theorem dX6_plus_1 : decode cX6_plus 1 = .ok (.getfield 15, 3) := by decide +kernel
theorem dX6_plus_4 : decode cX6_plus 4 = .ok (.ifCond .eq 11, 3) := by decide +kernel
theorem dX6_plus_7 : decode cX6_plus 7 = .ok (.lload_n 1, 1) := by decide +kernel
theorem dX6_plus_8 : decode cX6_plus 8 = .ok (.lload_n 3, 1) := by decide +kernel
theorem dX6_plus_9 : decode cX6_plus 9 = .ok (.invokestatic 128, 3) := by decide +kernel
theorem dX6_plus_12 : decode cX6_plus 12 = .ok (.goto 10, 3) := by decide +kernel
theorem dX6_plus_15 : decode cX6_plus 15 = .ok (.lload_n 1, 1) := by decide +kernel
theorem dX6_plus_16 : decode cX6_plus 16 = .ok (.lload_n 3, 1) := by decide +kernel
theorem dX6_plus_17 : decode cX6_plus 17 = .ok (.ladd, 1) := by decide +kernel
theorem dX6_plus_18 : decode cX6_plus 18 = .ok (.ldc2_w 133, 3) := by decide +kernel
theorem dX6_plus_21 : decode cX6_plus 21 = .ok (.lrem, 1) := by decide +kernel
theorem dX6_plus_22 : decode cX6_plus 22 = .ok (.lreturn, 1) := by decide +kernel
theorem dX6_times_0 : decode cX6_times 0 = .ok (.aload_n 0, 1) := by decide +kernel
theorem dX6_times_1 : decode cX6_times 1 = .ok (.getfield 15, 3) := by decide +kernel
theorem dX6_times_4 : decode cX6_times 4 = .ok (.ifCond .eq 11, 3) := by decide +kernel
theorem dX6_times_7 : decode cX6_times 7 = .ok (.lload_n 1, 1) := by decide +kernel
theorem dX6_times_8 : decode cX6_times 8 = .ok (.lload_n 3, 1) := by decide +kernel
theorem dX6_times_9 : decode cX6_times 9 = .ok (.invokestatic 135, 3) := by decide +kernel
theorem dX6_times_12 : decode cX6_times 12 = .ok (.goto 10, 3) := by decide +kernel
theorem dX6_times_15 : decode cX6_times 15 = .ok (.lload_n 1, 1) := by decide +kernel
theorem dX6_times_16 : decode cX6_times 16 = .ok (.lload_n 3, 1) := by decide +kernel
theorem dX6_times_17 : decode cX6_times 17 = .ok (.lmul, 1) := by decide +kernel
theorem dX6_times_18 : decode cX6_times 18 = .ok (.ldc2_w 133, 3) := by decide +kernel
theorem dX6_times_21 : decode cX6_times 21 = .ok (.lrem, 1) := by decide +kernel
theorem dX6_times_22 : decode cX6_times 22 = .ok (.lreturn, 1) := by decide +kernel
