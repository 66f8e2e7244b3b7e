theorem dX0_init_0 : decode cX0_init 0 = .ok (.aload_n 0, 1) := by decide +kernel
theorem dX0_init_1 : decode cX0_init 1 = .ok (.invokespecial 5, 3) := by decide +kernel
theorem dX0_init_4 : decode cX0_init 4 = .ok (.aload_n 0, 1) := by decide +kernel
theorem dX0_init_5 : decode cX0_init 5 = .ok (.bipush 32, 2) := by decide +kernel
theorem dX0_init_7 : decode cX0_init 7 = .ok (.newarray .int, 2) := by decide +kernel
theorem dX0_init_9 : decode cX0_init 9 = .ok (.putfield 11, 3) := by decide +kernel
theorem dX0_init_12 : decode cX0_init 12 = .ok (.aload_n 0, 1) := by decide +kernel
theorem dX0_init_13 : decode cX0_init 13 = .ok (.bipush 32, 2) := by decide +kernel
theorem dX0_init_15 : decode cX0_init 15 = .ok (.newarray .long, 2) := by decide +kernel
theorem dX0_init_17 : decode cX0_init 17 = .ok (.putfield 15, 3) := by decide +kernel
theorem dX0_init_20 : decode cX0_init 20 = .ok (.aload_n 0, 1) := by decide +kernel
theorem dX0_init_21 : decode cX0_init 21 = .ok (.bipush 12, 2) := by decide +kernel
theorem dX0_init_23 : decode cX0_init 23 = .ok (.newarray .int, 2) := by decide +kernel
theorem dX0_init_25 : decode cX0_init 25 = .ok (.putfield 19, 3) := by decide +kernel
theorem dX0_init_28 : decode cX0_init 28 = .ok (.aload_n 0, 1) := by decide +kernel
theorem dX0_init_29 : decode cX0_init 29 = .ok (.iconst 0, 1) := by decide +kernel
theorem dX0_init_30 : decode cX0_init 30 = .ok (.putfield 22, 3) := by decide +kernel
theorem dX0_init_33 : decode cX0_init 33 = .ok (.aload_n 0, 1) := by decide +kernel
theorem dX0_init_34 : decode cX0_init 34 = .ok (.aload_n 1, 1) := by decide +kernel
theorem dX0_init_35 : decode cX0_init 35 = .ok (.bipush 32, 2) := by decide +kernel
theorem dX0_init_37 : decode cX0_init 37 = .ok (.invokestatic 26, 3) := by decide +kernel
theorem dX0_init_40 : decode cX0_init 40 = .ok (.putfield 32, 3) := by decide +kernel
theorem dX0_init_43 : decode cX0_init 43 = .ok (.aload_n 0, 1) := by decide +kernel
theorem dX0_init_44 : decode cX0_init 44 = .ok (.aload_n 2, 1) := by decide +kernel
theorem dX0_init_45 : decode cX0_init 45 = .ok (.bipush 32, 2) := by decide +kernel
theorem dX0_init_47 : decode cX0_init 47 = .ok (.invokestatic 26, 3) := by decide +kernel
theorem dX0_init_50 : decode cX0_init 50 = .ok (.putfield 35, 3) := by decide +kernel
theorem dX0_init_53 : decode cX0_init 53 = .ok (.aload_n 0, 1) := by decide +kernel
theorem dX0_init_54 : decode cX0_init 54 = .ok (.aload_n 3, 1) := by decide +kernel
theorem dX0_init_55 : decode cX0_init 55 = .ok (.bipush 32, 2) := by decide +kernel
theorem dX0_init_57 : decode cX0_init 57 = .ok (.invokestatic 26, 3) := by decide +kernel
theorem dX0_init_60 : decode cX0_init 60 = .ok (.putfield 38, 3) := by decide +kernel
theorem dX0_init_63 : decode cX0_init 63 = .ok (.aload_n 0, 1) := by decide +kernel
theorem dX0_init_64 : decode cX0_init 64 = .ok (.iload 4, 2) := by decide +kernel
theorem dX0_init_66 : decode cX0_init 66 = .ok (.putfield 41, 3) := by decide +kernel
theorem dX0_init_69 : decode cX0_init 69 = .ok (.bipush 32, 2) := by decide +kernel
theorem dX0_init_71 : decode cX0_init 71 = .ok (.newarray .int, 2) := by decide +kernel
theorem dX0_init_73 : decode cX0_init 73 = .ok (.astore 5, 2) := by decide +kernel
theorem dX0_init_75 : decode cX0_init 75 = .ok (.iconst 0, 1) := by decide +kernel
theorem dX0_init_76 : decode cX0_init 76 = .ok (.istore 6, 2) := by decide +kernel
theorem dX0_init_78 : decode cX0_init 78 = .ok (.iconst 0, 1) := by decide +kernel
theorem dX0_init_79 : decode cX0_init 79 = .ok (.istore 7, 2) := by decide +kernel
theorem dX0_init_81 : decode cX0_init 81 = .ok (.iload 7, 2) := by decide +kernel
theorem dX0_init_83 : decode cX0_init 83 = .ok (.iload 4, 2) := by decide +kernel
theorem dX0_init_85 : decode cX0_init 85 = .ok (.if_icmp .ge 138, 3) := by decide +kernel
theorem dX0_init_88 : decode cX0_init 88 = .ok (.iload 7, 2) := by decide +kernel
theorem dX0_init_90 : decode cX0_init 90 = .ok (.bipush 32, 2) := by decide +kernel
theorem dX0_init_92 : decode cX0_init 92 = .ok (.if_icmp .ge 131, 3) := by decide +kernel
theorem dX0_init_95 : decode cX0_init 95 = .ok (.aload_n 0, 1) := by decide +kernel
theorem dX0_init_96 : decode cX0_init 96 = .ok (.getfield 32, 3) := by decide +kernel
theorem dX0_init_99 : decode cX0_init 99 = .ok (.iload 7, 2) := by decide +kernel
theorem dX0_init_101 : decode cX0_init 101 = .ok (.iaload, 1) := by decide +kernel
theorem dX0_init_102 : decode cX0_init 102 = .ok (.istore 8, 2) := by decide +kernel
theorem dX0_init_104 : decode cX0_init 104 = .ok (.aload_n 0, 1) := by decide +kernel
theorem dX0_init_105 : decode cX0_init 105 = .ok (.getfield 35, 3) := by decide +kernel
theorem dX0_init_108 : decode cX0_init 108 = .ok (.iload 7, 2) := by decide +kernel
theorem dX0_init_110 : decode cX0_init 110 = .ok (.iaload, 1) := by decide +kernel
theorem dX0_init_111 : decode cX0_init 111 = .ok (.bipush 31, 2) := by decide +kernel
theorem dX0_init_113 : decode cX0_init 113 = .ok (.iand, 1) := by decide +kernel
theorem dX0_init_114 : decode cX0_init 114 = .ok (.istore 9, 2) := by decide +kernel
theorem dX0_init_116 : decode cX0_init 116 = .ok (.aload_n 0, 1) := by decide +kernel
theorem dX0_init_117 : decode cX0_init 117 = .ok (.getfield 38, 3) := by decide +kernel
theorem dX0_init_120 : decode cX0_init 120 = .ok (.iload 7, 2) := by decide +kernel
theorem dX0_init_122 : decode cX0_init 122 = .ok (.iaload, 1) := by decide +kernel
theorem dX0_init_123 : decode cX0_init 123 = .ok (.bipush 31, 2) := by decide +kernel
theorem dX0_init_125 : decode cX0_init 125 = .ok (.iand, 1) := by decide +kernel
theorem dX0_init_126 : decode cX0_init 126 = .ok (.istore 10, 2) := by decide +kernel
theorem dX0_init_128 : decode cX0_init 128 = .ok (.iload 6, 2) := by decide +kernel
theorem dX0_init_130 : decode cX0_init 130 = .ok (.iload 8, 2) := by decide +kernel
theorem dX0_init_132 : decode cX0_init 132 = .ok (.bipush 8, 2) := by decide +kernel
theorem dX0_init_134 : decode cX0_init 134 = .ok (.if_icmp .ge 7, 3) := by decide +kernel
theorem dX0_init_137 : decode cX0_init 137 = .ok (.iconst 1, 1) := by decide +kernel
theorem dX0_init_138 : decode cX0_init 138 = .ok (.goto 4, 3) := by decide +kernel
theorem dX0_init_141 : decode cX0_init 141 = .ok (.iconst 0, 1) := by decide +kernel
theorem dX0_init_142 : decode cX0_init 142 = .ok (.iadd, 1) := by decide +kernel
theorem dX0_init_143 : decode cX0_init 143 = .ok (.istore 6, 2) := by decide +kernel
theorem dX0_init_145 : decode cX0_init 145 = .ok (.aload 5, 2) := by decide +kernel
theorem dX0_init_147 : decode cX0_init 147 = .ok (.iload 7, 2) := by decide +kernel
theorem dX0_init_149 : decode cX0_init 149 = .ok (.iload 8, 2) := by decide +kernel
theorem dX0_init_151 : decode cX0_init 151 = .ok (.aload 5, 2) := by decide +kernel
theorem dX0_init_153 : decode cX0_init 153 = .ok (.iload 9, 2) := by decide +kernel
theorem dX0_init_155 : decode cX0_init 155 = .ok (.iaload, 1) := by decide +kernel
theorem dX0_init_156 : decode cX0_init 156 = .ok (.aload 5, 2) := by decide +kernel
theorem dX0_init_158 : decode cX0_init 158 = .ok (.iload 10, 2) := by decide +kernel
theorem dX0_init_160 : decode cX0_init 160 = .ok (.iaload, 1) := by decide +kernel
theorem dX0_init_161 : decode cX0_init 161 = .ok (.invokestatic 44, 3) := by decide +kernel
theorem dX0_init_164 : decode cX0_init 164 = .ok (.iastore, 1) := by decide +kernel
theorem dX0_init_165 : decode cX0_init 165 = .ok (.aload_n 0, 1) := by decide +kernel
theorem dX0_init_166 : decode cX0_init 166 = .ok (.getfield 11, 3) := by decide +kernel
theorem dX0_init_169 : decode cX0_init 169 = .ok (.iload 7, 2) := by decide +kernel
theorem dX0_init_171 : decode cX0_init 171 = .ok (.iload 8, 2) := by decide +kernel
theorem dX0_init_173 : decode cX0_init 173 = .ok (.aload_n 0, 1) := by decide +kernel
theorem dX0_init_174 : decode cX0_init 174 = .ok (.getfield 11, 3) := by decide +kernel
theorem dX0_init_177 : decode cX0_init 177 = .ok (.iload 9, 2) := by decide +kernel
theorem dX0_init_179 : decode cX0_init 179 = .ok (.iaload, 1) := by decide +kernel
theorem dX0_init_180 : decode cX0_init 180 = .ok (.aload_n 0, 1) := by decide +kernel
theorem dX0_init_181 : decode cX0_init 181 = .ok (.getfield 11, 3) := by decide +kernel
theorem dX0_init_184 : decode cX0_init 184 = .ok (.iload 10, 2) := by decide +kernel
theorem dX0_init_186 : decode cX0_init 186 = .ok (.iaload, 1) := by decide +kernel
theorem dX0_init_187 : decode cX0_init 187 = .ok (.invokestatic 48, 3) := by decide +kernel
theorem dX0_init_190 : decode cX0_init 190 = .ok (.iastore, 1) := by decide +kernel
theorem dX0_init_191 : decode cX0_init 191 = .ok (.aload_n 0, 1) := by decide +kernel
theorem dX0_init_192 : decode cX0_init 192 = .ok (.getfield 15, 3) := by decide +kernel
theorem dX0_init_195 : decode cX0_init 195 = .ok (.iload 7, 2) := by decide +kernel
theorem dX0_init_197 : decode cX0_init 197 = .ok (.iload 8, 2) := by decide +kernel
theorem dX0_init_199 : decode cX0_init 199 = .ok (.aload_n 0, 1) := by decide +kernel
theorem dX0_init_200 : decode cX0_init 200 = .ok (.getfield 15, 3) := by decide +kernel
theorem dX0_init_203 : decode cX0_init 203 = .ok (.iload 9, 2) := by decide +kernel
theorem dX0_init_205 : decode cX0_init 205 = .ok (.laload, 1) := by decide +kernel
theorem dX0_init_206 : decode cX0_init 206 = .ok (.aload_n 0, 1) := by decide +kernel
theorem dX0_init_207 : decode cX0_init 207 = .ok (.getfield 15, 3) := by decide +kernel
theorem dX0_init_210 : decode cX0_init 210 = .ok (.iload 10, 2) := by decide +kernel
theorem dX0_init_212 : decode cX0_init 212 = .ok (.laload, 1) := by decide +kernel
theorem dX0_init_213 : decode cX0_init 213 = .ok (.invokestatic 51, 3) := by decide +kernel
theorem dX0_init_216 : decode cX0_init 216 = .ok (.lastore, 1) := by decide +kernel
theorem dX0_init_217 : decode cX0_init 217 = .ok (.iinc 7 1, 3) := by decide +kernel
theorem dX0_init_220 : decode cX0_init 220 = .ok (.goto (-139), 3) := by decide +kernel
theorem dX0_init_223 : decode cX0_init 223 = .ok (.iload 4, 2) := by decide +kernel
theorem dX0_init_225 : decode cX0_init 225 = .ok (.iconst 1, 1) := by decide +kernel
theorem dX0_init_226 : decode cX0_init 226 = .ok (.isub, 1) := by decide +kernel
theorem dX0_init_227 : decode cX0_init 227 = .ok (.bipush 31, 2) := by decide +kernel
theorem dX0_init_229 : decode cX0_init 229 = .ok (.iand, 1) := by decide +kernel
theorem dX0_init_230 : decode cX0_init 230 = .ok (.istore 7, 2) := by decide +kernel
theorem dX0_init_232 : decode cX0_init 232 = .ok (.aload_n 0, 1) := by decide +kernel
theorem dX0_init_233 : decode cX0_init 233 = .ok (.iload 6, 2) := by decide +kernel
theorem dX0_init_235 : decode cX0_init 235 = .ok (.putfield 55, 3) := by decide +kernel
theorem dX0_init_238 : decode cX0_init 238 = .ok (.aload_n 0, 1) := by decide +kernel
theorem dX0_init_239 : decode cX0_init 239 = .ok (.aload 5, 2) := by decide +kernel
theorem dX0_init_241 : decode cX0_init 241 = .ok (.iload 7, 2) := by decide +kernel
theorem dX0_init_243 : decode cX0_init 243 = .ok (.iaload, 1) := by decide +kernel
theorem dX0_init_244 : decode cX0_init 244 = .ok (.putfield 58, 3) := by decide +kernel
theorem dX0_init_247 : decode cX0_init 247 = .ok (.aload_n 0, 1) := by decide +kernel
theorem dX0_init_248 : decode cX0_init 248 = .ok (.aload_n 0, 1) := by decide +kernel
theorem dX0_init_249 : decode cX0_init 249 = .ok (.getfield 11, 3) := by decide +kernel
theorem dX0_init_252 : decode cX0_init 252 = .ok (.iload 7, 2) := by decide +kernel
theorem dX0_init_254 : decode cX0_init 254 = .ok (.iaload, 1) := by decide +kernel
theorem dX0_init_255 : decode cX0_init 255 = .ok (.putfield 61, 3) := by decide +kernel
theorem dX0_init_258 : decode cX0_init 258 = .ok (.aload_n 0, 1) := by decide +kernel
theorem dX0_init_259 : decode cX0_init 259 = .ok (.aload_n 0, 1) := by decide +kernel
theorem dX0_init_260 : decode cX0_init 260 = .ok (.getfield 15, 3) := by decide +kernel
theorem dX0_init_263 : decode cX0_init 263 = .ok (.iload 7, 2) := by decide +kernel
theorem dX0_init_265 : decode cX0_init 265 = .ok (.laload, 1) := by decide +kernel
theorem dX0_init_266 : decode cX0_init 266 = .ok (.putfield 64, 3) := by decide +kernel
theorem dX0_init_269 : decode cX0_init 269 = .ok (.return_, 1) := by decide +kernel
theorem dX0_of_0 : decode cX0_of 0 = .ok (.new 1, 3) := by decide +kernel
theorem dX0_of_3 : decode cX0_of 3 = .ok (.dup, 1) := by decide +kernel
theorem dX0_of_4 : decode cX0_of 4 = .ok (.aload_n 0, 1) := by decide +kernel
theorem dX0_of_5 : decode cX0_of 5 = .ok (.aload_n 1, 1) := by decide +kernel
theorem dX0_of_6 : decode cX0_of 6 = .ok (.aload_n 2, 1) := by decide +kernel
theorem dX0_of_7 : decode cX0_of 7 = .ok (.iload_n 3, 1) := by decide +kernel
theorem dX0_of_8 : decode cX0_of 8 = .ok (.invokespecial 68, 3) := by decide +kernel
theorem dX0_of_11 : decode cX0_of 11 = .ok (.astore 4, 2) := by decide +kernel
theorem dX0_of_13 : decode cX0_of 13 = .ok (.aload 4, 2) := by decide +kernel
theorem dX0_of_15 : decode cX0_of 15 = .ok (.aload 4, 2) := by decide +kernel
theorem dX0_of_17 : decode cX0_of 17 = .ok (.iload_n 3, 1) := by decide +kernel
theorem dX0_of_18 : decode cX0_of 18 = .ok (.iconst 1, 1) := by decide +kernel
theorem dX0_of_19 : decode cX0_of 19 = .ok (.isub, 1) := by decide +kernel
theorem dX0_of_20 : decode cX0_of 20 = .ok (.iconst 0, 1) := by decide +kernel
theorem dX0_of_21 : decode cX0_of 21 = .ok (.iconst 0, 1) := by decide +kernel
theorem dX0_of_22 : decode cX0_of 22 = .ok (.iconst 0, 1) := by decide +kernel
theorem dX0_of_23 : decode cX0_of 23 = .ok (.invokestatic 71, 3) := by decide +kernel
theorem dX0_of_26 : decode cX0_of 26 = .ok (.putfield 22, 3) := by decide +kernel
theorem dX0_of_29 : decode cX0_of 29 = .ok (.aload 4, 2) := by decide +kernel
theorem dX0_of_31 : decode cX0_of 31 = .ok (.areturn, 1) := by decide +kernel
theorem dX0_ofAtom_0 : decode cX0_ofAtom 0 = .ok (.bipush 32, 2) := by decide +kernel
theorem dX0_ofAtom_2 : decode cX0_ofAtom 2 = .ok (.newarray .int, 2) := by decide +kernel
theorem dX0_ofAtom_4 : decode cX0_ofAtom 4 = .ok (.astore_n 1, 1) := by decide +kernel
theorem dX0_ofAtom_5 : decode cX0_ofAtom 5 = .ok (.aload_n 1, 1) := by decide +kernel
theorem dX0_ofAtom_6 : decode cX0_ofAtom 6 = .ok (.iconst 0, 1) := by decide +kernel
theorem dX0_ofAtom_7 : decode cX0_ofAtom 7 = .ok (.iload_n 0, 1) := by decide +kernel
theorem dX0_ofAtom_8 : decode cX0_ofAtom 8 = .ok (.iastore, 1) := by decide +kernel
theorem dX0_ofAtom_9 : decode cX0_ofAtom 9 = .ok (.aload_n 1, 1) := by decide +kernel
theorem dX0_ofAtom_10 : decode cX0_ofAtom 10 = .ok (.bipush 32, 2) := by decide +kernel
theorem dX0_ofAtom_12 : decode cX0_ofAtom 12 = .ok (.newarray .int, 2) := by decide +kernel
theorem dX0_ofAtom_14 : decode cX0_ofAtom 14 = .ok (.bipush 32, 2) := by decide +kernel
theorem dX0_ofAtom_16 : decode cX0_ofAtom 16 = .ok (.newarray .int, 2) := by decide +kernel
theorem dX0_ofAtom_18 : decode cX0_ofAtom 18 = .ok (.iconst 1, 1) := by decide +kernel
theorem dX0_ofAtom_19 : decode cX0_ofAtom 19 = .ok (.invokestatic 75, 3) := by decide +kernel
theorem dX0_ofAtom_22 : decode cX0_ofAtom 22 = .ok (.areturn, 1) := by decide +kernel
theorem dX0_atomsOf_0 : decode cX0_atomsOf 0 = .ok (.iconst 0, 1) := by decide +kernel
theorem dX0_atomsOf_1 : decode cX0_atomsOf 1 = .ok (.istore_n 2, 1) := by decide +kernel
theorem dX0_atomsOf_2 : decode cX0_atomsOf 2 = .ok (.iconst 0, 1) := by decide +kernel
theorem dX0_atomsOf_3 : decode cX0_atomsOf 3 = .ok (.istore_n 3, 1) := by decide +kernel
theorem dX0_atomsOf_4 : decode cX0_atomsOf 4 = .ok (.iload_n 3, 1) := by decide +kernel
theorem dX0_atomsOf_5 : decode cX0_atomsOf 5 = .ok (.iload_n 1, 1) := by decide +kernel
theorem dX0_atomsOf_6 : decode cX0_atomsOf 6 = .ok (.if_icmp .ge 24, 3) := by decide +kernel
theorem dX0_atomsOf_9 : decode cX0_atomsOf 9 = .ok (.iload_n 3, 1) := by decide +kernel
theorem dX0_atomsOf_10 : decode cX0_atomsOf 10 = .ok (.aload_n 0, 1) := by decide +kernel
theorem dX0_atomsOf_11 : decode cX0_atomsOf 11 = .ok (.arraylength, 1) := by decide +kernel
theorem dX0_atomsOf_12 : decode cX0_atomsOf 12 = .ok (.if_icmp .ge 18, 3) := by decide +kernel
theorem dX0_atomsOf_15 : decode cX0_atomsOf 15 = .ok (.iload_n 2, 1) := by decide +kernel
theorem dX0_atomsOf_16 : decode cX0_atomsOf 16 = .ok (.aload_n 0, 1) := by decide +kernel
theorem dX0_atomsOf_17 : decode cX0_atomsOf 17 = .ok (.iload_n 3, 1) := by decide +kernel
theorem dX0_atomsOf_18 : decode cX0_atomsOf 18 = .ok (.aaload, 1) := by decide +kernel
theorem dX0_atomsOf_19 : decode cX0_atomsOf 19 = .ok (.getfield 55, 3) := by decide +kernel
theorem dX0_atomsOf_22 : decode cX0_atomsOf 22 = .ok (.iadd, 1) := by decide +kernel
theorem dX0_atomsOf_23 : decode cX0_atomsOf 23 = .ok (.istore_n 2, 1) := by decide +kernel
theorem dX0_atomsOf_24 : decode cX0_atomsOf 24 = .ok (.iinc 3 1, 3) := by decide +kernel
theorem dX0_atomsOf_27 : decode cX0_atomsOf 27 = .ok (.goto (-23), 3) := by decide +kernel
theorem dX0_atomsOf_30 : decode cX0_atomsOf 30 = .ok (.iload_n 2, 1) := by decide +kernel
theorem dX0_atomsOf_31 : decode cX0_atomsOf 31 = .ok (.ireturn, 1) := by decide +kernel
theorem dX0_orderOf_0 : decode cX0_orderOf 0 = .ok (.iload_n 0, 1) := by decide +kernel
theorem dX0_orderOf_1 : decode cX0_orderOf 1 = .ok (.bipush 8, 2) := by decide +kernel
theorem dX0_orderOf_3 : decode cX0_orderOf 3 = .ok (.if_icmp .ge 5, 3) := by decide +kernel
theorem dX0_orderOf_6 : decode cX0_orderOf 6 = .ok (.iconst 0, 1) := by decide +kernel
theorem dX0_orderOf_7 : decode cX0_orderOf 7 = .ok (.ireturn, 1) := by decide +kernel
theorem dX0_orderOf_8 : decode cX0_orderOf 8 = .ok (.iload_n 1, 1) := by decide +kernel
theorem dX0_orderOf_9 : decode cX0_orderOf 9 = .ok (.iload_n 0, 1) := by decide +kernel
theorem dX0_orderOf_10 : decode cX0_orderOf 10 = .ok (.bipush 10, 2) := by decide +kernel
theorem dX0_orderOf_12 : decode cX0_orderOf 12 = .ok (.if_icmp .ne 7, 3) := by decide +kernel
theorem dX0_orderOf_15 : decode cX0_orderOf 15 = .ok (.iload_n 2, 1) := by decide +kernel
theorem dX0_orderOf_16 : decode cX0_orderOf 16 = .ok (.goto 6, 3) := by decide +kernel
theorem dX0_orderOf_19 : decode cX0_orderOf 19 = .ok (.iload_n 2, 1) := by decide +kernel
theorem dX0_orderOf_20 : decode cX0_orderOf 20 = .ok (.iconst 1, 1) := by decide +kernel
theorem dX0_orderOf_21 : decode cX0_orderOf 21 = .ok (.iadd, 1) := by decide +kernel
theorem dX0_orderOf_22 : decode cX0_orderOf 22 = .ok (.invokestatic 79, 3) := by decide +kernel
theorem dX0_orderOf_25 : decode cX0_orderOf 25 = .ok (.ireturn, 1) := by decide +kernel
theorem dX0_goalOf_0 : decode cX0_goalOf 0 = .ok (.iload_n 0, 1) := by decide +kernel
theorem dX0_goalOf_1 : decode cX0_goalOf 1 = .ok (.bipush 8, 2) := by decide +kernel
theorem dX0_goalOf_3 : decode cX0_goalOf 3 = .ok (.if_icmp .ge 5, 3) := by decide +kernel
theorem dX0_goalOf_6 : decode cX0_goalOf 6 = .ok (.iload_n 0, 1) := by decide +kernel
theorem dX0_goalOf_7 : decode cX0_goalOf 7 = .ok (.ireturn, 1) := by decide +kernel
theorem dX0_goalOf_8 : decode cX0_goalOf 8 = .ok (.iload_n 0, 1) := by decide +kernel
theorem dX0_goalOf_9 : decode cX0_goalOf 9 = .ok (.bipush 10, 2) := by decide +kernel
theorem dX0_goalOf_11 : decode cX0_goalOf 11 = .ok (.if_icmp .eq 9, 3) := by decide +kernel
theorem dX0_goalOf_14 : decode cX0_goalOf 14 = .ok (.iload_n 2, 1) := by decide +kernel
theorem dX0_goalOf_15 : decode cX0_goalOf 15 = .ok (.bipush (-9), 2) := by decide +kernel
theorem dX0_goalOf_17 : decode cX0_goalOf 17 = .ok (.if_icmp .ne 8, 3) := by decide +kernel
theorem dX0_goalOf_20 : decode cX0_goalOf 20 = .ok (.bipush (-9), 2) := by decide +kernel
theorem dX0_goalOf_22 : decode cX0_goalOf 22 = .ok (.goto 4, 3) := by decide +kernel
theorem dX0_goalOf_25 : decode cX0_goalOf 25 = .ok (.iload_n 1, 1) := by decide +kernel
theorem dX0_goalOf_26 : decode cX0_goalOf 26 = .ok (.ireturn, 1) := by decide +kernel
theorem dX0_balancesOf_0 : decode cX0_balancesOf 0 = .ok (.iload_n 0, 1) := by decide +kernel
theorem dX0_balancesOf_1 : decode cX0_balancesOf 1 = .ok (.bipush 8, 2) := by decide +kernel
theorem dX0_balancesOf_3 : decode cX0_balancesOf 3 = .ok (.if_icmp .ge 10, 3) := by decide +kernel
theorem dX0_balancesOf_6 : decode cX0_balancesOf 6 = .ok (.lconst 1, 1) := by decide +kernel
theorem dX0_balancesOf_7 : decode cX0_balancesOf 7 = .ok (.bipush 8, 2) := by decide +kernel
theorem dX0_balancesOf_9 : decode cX0_balancesOf 9 = .ok (.iload_n 0, 1) := by decide +kernel
theorem dX0_balancesOf_10 : decode cX0_balancesOf 10 = .ok (.imul, 1) := by decide +kernel
theorem dX0_balancesOf_11 : decode cX0_balancesOf 11 = .ok (.lshl, 1) := by decide +kernel
theorem dX0_balancesOf_12 : decode cX0_balancesOf 12 = .ok (.lreturn, 1) := by decide +kernel
theorem dX0_balancesOf_13 : decode cX0_balancesOf 13 = .ok (.iload_n 0, 1) := by decide +kernel
theorem dX0_balancesOf_14 : decode cX0_balancesOf 14 = .ok (.bipush 10, 2) := by decide +kernel
theorem dX0_balancesOf_16 : decode cX0_balancesOf 16 = .ok (.if_icmp .ne 9, 3) := by decide +kernel
theorem dX0_balancesOf_19 : decode cX0_balancesOf 19 = .ok (.lload_n 1, 1) := by decide +kernel
theorem dX0_balancesOf_20 : decode cX0_balancesOf 20 = .ok (.lload_n 3, 1) := by decide +kernel
theorem dX0_balancesOf_21 : decode cX0_balancesOf 21 = .ok (.ladd, 1) := by decide +kernel
theorem dX0_balancesOf_22 : decode cX0_balancesOf 22 = .ok (.goto 6, 3) := by decide +kernel
theorem dX0_balancesOf_25 : decode cX0_balancesOf 25 = .ok (.lload_n 1, 1) := by decide +kernel
theorem dX0_balancesOf_26 : decode cX0_balancesOf 26 = .ok (.lload_n 3, 1) := by decide +kernel
theorem dX0_balancesOf_27 : decode cX0_balancesOf 27 = .ok (.lsub, 1) := by decide +kernel
theorem dX0_balancesOf_28 : decode cX0_balancesOf 28 = .ok (.lreturn, 1) := by decide +kernel
theorem dX0_letterCount_0 : decode cX0_letterCount 0 = .ok (.aload_n 0, 1) := by decide +kernel
theorem dX0_letterCount_1 : decode cX0_letterCount 1 = .ok (.getfield 22, 3) := by decide +kernel
theorem dX0_letterCount_4 : decode cX0_letterCount 4 = .ok (.ireturn, 1) := by decide +kernel
theorem dX0_balanceOf_0 : decode cX0_balanceOf 0 = .ok (.aload_n 0, 1) := by decide +kernel
theorem dX0_balanceOf_1 : decode cX0_balanceOf 1 = .ok (.getfield 64, 3) := by decide +kernel
theorem dX0_balanceOf_4 : decode cX0_balanceOf 4 = .ok (.lstore_n 2, 1) := by decide +kernel
theorem dX0_balanceOf_5 : decode cX0_balanceOf 5 = .ok (.iconst 0, 1) := by decide +kernel
theorem dX0_balanceOf_6 : decode cX0_balanceOf 6 = .ok (.istore 4, 2) := by decide +kernel
theorem dX0_balanceOf_8 : decode cX0_balanceOf 8 = .ok (.iload 4, 2) := by decide +kernel
theorem dX0_balanceOf_10 : decode cX0_balanceOf 10 = .ok (.iload_n 1, 1) := by decide +kernel
theorem dX0_balanceOf_11 : decode cX0_balanceOf 11 = .ok (.if_icmp .ge 26, 3) := by decide +kernel
theorem dX0_balanceOf_14 : decode cX0_balanceOf 14 = .ok (.iload 4, 2) := by decide +kernel
theorem dX0_balanceOf_16 : decode cX0_balanceOf 16 = .ok (.bipush 8, 2) := by decide +kernel
theorem dX0_balanceOf_18 : decode cX0_balanceOf 18 = .ok (.if_icmp .ge 19, 3) := by decide +kernel
theorem dX0_balanceOf_21 : decode cX0_balanceOf 21 = .ok (.lload_n 2, 1) := by decide +kernel
theorem dX0_balanceOf_22 : decode cX0_balanceOf 22 = .ok (.lload_n 2, 1) := by decide +kernel
theorem dX0_balanceOf_23 : decode cX0_balanceOf 23 = .ok (.l2i, 1) := by decide +kernel
theorem dX0_balanceOf_24 : decode cX0_balanceOf 24 = .ok (.i2b, 1) := by decide +kernel
theorem dX0_balanceOf_25 : decode cX0_balanceOf 25 = .ok (.i2l, 1) := by decide +kernel
theorem dX0_balanceOf_26 : decode cX0_balanceOf 26 = .ok (.lsub, 1) := by decide +kernel
theorem dX0_balanceOf_27 : decode cX0_balanceOf 27 = .ok (.bipush 8, 2) := by decide +kernel
theorem dX0_balanceOf_29 : decode cX0_balanceOf 29 = .ok (.lshr, 1) := by decide +kernel
theorem dX0_balanceOf_30 : decode cX0_balanceOf 30 = .ok (.lstore_n 2, 1) := by decide +kernel
theorem dX0_balanceOf_31 : decode cX0_balanceOf 31 = .ok (.iinc 4 1, 3) := by decide +kernel
theorem dX0_balanceOf_34 : decode cX0_balanceOf 34 = .ok (.goto (-26), 3) := by decide +kernel
theorem dX0_balanceOf_37 : decode cX0_balanceOf 37 = .ok (.lload_n 2, 1) := by decide +kernel
theorem dX0_balanceOf_38 : decode cX0_balanceOf 38 = .ok (.l2i, 1) := by decide +kernel
theorem dX0_balanceOf_39 : decode cX0_balanceOf 39 = .ok (.i2b, 1) := by decide +kernel
theorem dX0_balanceOf_40 : decode cX0_balanceOf 40 = .ok (.ireturn, 1) := by decide +kernel
theorem dX0_letterAt_0 : decode cX0_letterAt 0 = .ok (.iload_n 1, 1) := by decide +kernel
theorem dX0_letterAt_1 : decode cX0_letterAt 1 = .ok (.ifCond .lt 29, 3) := by decide +kernel
theorem dX0_letterAt_4 : decode cX0_letterAt 4 = .ok (.iload_n 1, 1) := by decide +kernel
theorem dX0_letterAt_5 : decode cX0_letterAt 5 = .ok (.aload_n 0, 1) := by decide +kernel
theorem dX0_letterAt_6 : decode cX0_letterAt 6 = .ok (.getfield 22, 3) := by decide +kernel
theorem dX0_letterAt_9 : decode cX0_letterAt 9 = .ok (.if_icmp .ge 21, 3) := by decide +kernel
theorem dX0_letterAt_12 : decode cX0_letterAt 12 = .ok (.iload_n 1, 1) := by decide +kernel
theorem dX0_letterAt_13 : decode cX0_letterAt 13 = .ok (.aload_n 0, 1) := by decide +kernel
theorem dX0_letterAt_14 : decode cX0_letterAt 14 = .ok (.getfield 19, 3) := by decide +kernel
theorem dX0_letterAt_17 : decode cX0_letterAt 17 = .ok (.arraylength, 1) := by decide +kernel
theorem dX0_letterAt_18 : decode cX0_letterAt 18 = .ok (.if_icmp .ge 12, 3) := by decide +kernel
theorem dX0_letterAt_21 : decode cX0_letterAt 21 = .ok (.aload_n 0, 1) := by decide +kernel
theorem dX0_letterAt_22 : decode cX0_letterAt 22 = .ok (.getfield 19, 3) := by decide +kernel
theorem dX0_letterAt_25 : decode cX0_letterAt 25 = .ok (.iload_n 1, 1) := by decide +kernel
theorem dX0_letterAt_26 : decode cX0_letterAt 26 = .ok (.iaload, 1) := by decide +kernel
theorem dX0_letterAt_27 : decode cX0_letterAt 27 = .ok (.goto 5, 3) := by decide +kernel
theorem dX0_letterAt_30 : decode cX0_letterAt 30 = .ok (.ldc 85, 2) := by decide +kernel
theorem dX0_letterAt_32 : decode cX0_letterAt 32 = .ok (.ireturn, 1) := by decide +kernel
theorem dX0_hasStar_0 : decode cX0_hasStar 0 = .ok (.aload_n 0, 1) := by decide +kernel
theorem dX0_hasStar_1 : decode cX0_hasStar 1 = .ok (.getfield 61, 3) := by decide +kernel
theorem dX0_hasStar_4 : decode cX0_hasStar 4 = .ok (.bipush (-9), 2) := by decide +kernel
theorem dX0_hasStar_6 : decode cX0_hasStar 6 = .ok (.if_icmp .ne 7, 3) := by decide +kernel
theorem dX0_hasStar_9 : decode cX0_hasStar 9 = .ok (.iconst 1, 1) := by decide +kernel
theorem dX0_hasStar_10 : decode cX0_hasStar 10 = .ok (.goto 4, 3) := by decide +kernel
theorem dX0_hasStar_13 : decode cX0_hasStar 13 = .ok (.iconst 0, 1) := by decide +kernel
theorem dX0_hasStar_14 : decode cX0_hasStar 14 = .ok (.ireturn, 1) := by decide +kernel
theorem dX0_hasTextOf_0 : decode cX0_hasTextOf 0 = .ok (.aload_n 0, 1) := by decide +kernel
theorem dX0_hasTextOf_1 : decode cX0_hasTextOf 1 = .ok (.getfield 41, 3) := by decide +kernel
theorem dX0_hasTextOf_4 : decode cX0_hasTextOf 4 = .ok (.aload_n 1, 1) := by decide +kernel
theorem dX0_hasTextOf_5 : decode cX0_hasTextOf 5 = .ok (.getfield 41, 3) := by decide +kernel
theorem dX0_hasTextOf_8 : decode cX0_hasTextOf 8 = .ok (.if_icmp .eq 5, 3) := by decide +kernel
theorem dX0_hasTextOf_11 : decode cX0_hasTextOf 11 = .ok (.iconst 0, 1) := by decide +kernel
theorem dX0_hasTextOf_12 : decode cX0_hasTextOf 12 = .ok (.ireturn, 1) := by decide +kernel
theorem dX0_hasTextOf_13 : decode cX0_hasTextOf 13 = .ok (.iconst 0, 1) := by decide +kernel
theorem dX0_hasTextOf_14 : decode cX0_hasTextOf 14 = .ok (.istore_n 2, 1) := by decide +kernel
theorem dX0_hasTextOf_15 : decode cX0_hasTextOf 15 = .ok (.iload_n 2, 1) := by decide +kernel
theorem dX0_hasTextOf_16 : decode cX0_hasTextOf 16 = .ok (.aload_n 0, 1) := by decide +kernel
theorem dX0_hasTextOf_17 : decode cX0_hasTextOf 17 = .ok (.getfield 41, 3) := by decide +kernel
theorem dX0_hasTextOf_20 : decode cX0_hasTextOf 20 = .ok (.if_icmp .ge 32, 3) := by decide +kernel
theorem dX0_hasTextOf_23 : decode cX0_hasTextOf 23 = .ok (.iload_n 2, 1) := by decide +kernel
theorem dX0_hasTextOf_24 : decode cX0_hasTextOf 24 = .ok (.bipush 32, 2) := by decide +kernel
theorem dX0_hasTextOf_26 : decode cX0_hasTextOf 26 = .ok (.if_icmp .ge 26, 3) := by decide +kernel
theorem dX0_hasTextOf_29 : decode cX0_hasTextOf 29 = .ok (.aload_n 0, 1) := by decide +kernel
theorem dX0_hasTextOf_30 : decode cX0_hasTextOf 30 = .ok (.getfield 32, 3) := by decide +kernel
theorem dX0_hasTextOf_33 : decode cX0_hasTextOf 33 = .ok (.iload_n 2, 1) := by decide +kernel
theorem dX0_hasTextOf_34 : decode cX0_hasTextOf 34 = .ok (.iaload, 1) := by decide +kernel
theorem dX0_hasTextOf_35 : decode cX0_hasTextOf 35 = .ok (.aload_n 1, 1) := by decide +kernel
theorem dX0_hasTextOf_36 : decode cX0_hasTextOf 36 = .ok (.getfield 32, 3) := by decide +kernel
theorem dX0_hasTextOf_39 : decode cX0_hasTextOf 39 = .ok (.iload_n 2, 1) := by decide +kernel
theorem dX0_hasTextOf_40 : decode cX0_hasTextOf 40 = .ok (.iaload, 1) := by decide +kernel
theorem dX0_hasTextOf_41 : decode cX0_hasTextOf 41 = .ok (.if_icmp .eq 5, 3) := by decide +kernel
theorem dX0_hasTextOf_44 : decode cX0_hasTextOf 44 = .ok (.iconst 0, 1) := by decide +kernel
theorem dX0_hasTextOf_45 : decode cX0_hasTextOf 45 = .ok (.ireturn, 1) := by decide +kernel
theorem dX0_hasTextOf_46 : decode cX0_hasTextOf 46 = .ok (.iinc 2 1, 3) := by decide +kernel
theorem dX0_hasTextOf_49 : decode cX0_hasTextOf 49 = .ok (.goto (-34), 3) := by decide +kernel
theorem dX0_hasTextOf_52 : decode cX0_hasTextOf 52 = .ok (.iconst 1, 1) := by decide +kernel
theorem dX0_hasTextOf_53 : decode cX0_hasTextOf 53 = .ok (.ireturn, 1) := by decide +kernel
theorem dX0_hasLettersOf_0 : decode cX0_hasLettersOf 0 = .ok (.aload_n 0, 1) := by decide +kernel
theorem dX0_hasLettersOf_1 : decode cX0_hasLettersOf 1 = .ok (.getfield 22, 3) := by decide +kernel
theorem dX0_hasLettersOf_4 : decode cX0_hasLettersOf 4 = .ok (.aload_n 1, 1) := by decide +kernel
theorem dX0_hasLettersOf_5 : decode cX0_hasLettersOf 5 = .ok (.getfield 22, 3) := by decide +kernel
theorem dX0_hasLettersOf_8 : decode cX0_hasLettersOf 8 = .ok (.if_icmp .eq 5, 3) := by decide +kernel
theorem dX0_hasLettersOf_11 : decode cX0_hasLettersOf 11 = .ok (.iconst 0, 1) := by decide +kernel
theorem dX0_hasLettersOf_12 : decode cX0_hasLettersOf 12 = .ok (.ireturn, 1) := by decide +kernel
theorem dX0_hasLettersOf_13 : decode cX0_hasLettersOf 13 = .ok (.iconst 0, 1) := by decide +kernel
theorem dX0_hasLettersOf_14 : decode cX0_hasLettersOf 14 = .ok (.istore_n 2, 1) := by decide +kernel
theorem dX0_hasLettersOf_15 : decode cX0_hasLettersOf 15 = .ok (.iload_n 2, 1) := by decide +kernel
theorem dX0_hasLettersOf_16 : decode cX0_hasLettersOf 16 = .ok (.aload_n 0, 1) := by decide +kernel
theorem dX0_hasLettersOf_17 : decode cX0_hasLettersOf 17 = .ok (.getfield 22, 3) := by decide +kernel
theorem dX0_hasLettersOf_20 : decode cX0_hasLettersOf 20 = .ok (.if_icmp .ge 35, 3) := by decide +kernel
theorem dX0_hasLettersOf_23 : decode cX0_hasLettersOf 23 = .ok (.iload_n 2, 1) := by decide +kernel
theorem dX0_hasLettersOf_24 : decode cX0_hasLettersOf 24 = .ok (.aload_n 0, 1) := by decide +kernel
theorem dX0_hasLettersOf_25 : decode cX0_hasLettersOf 25 = .ok (.getfield 19, 3) := by decide +kernel
theorem dX0_hasLettersOf_28 : decode cX0_hasLettersOf 28 = .ok (.arraylength, 1) := by decide +kernel
theorem dX0_hasLettersOf_29 : decode cX0_hasLettersOf 29 = .ok (.if_icmp .ge 26, 3) := by decide +kernel
theorem dX0_hasLettersOf_32 : decode cX0_hasLettersOf 32 = .ok (.aload_n 0, 1) := by decide +kernel
theorem dX0_hasLettersOf_33 : decode cX0_hasLettersOf 33 = .ok (.getfield 19, 3) := by decide +kernel
theorem dX0_hasLettersOf_36 : decode cX0_hasLettersOf 36 = .ok (.iload_n 2, 1) := by decide +kernel
theorem dX0_hasLettersOf_37 : decode cX0_hasLettersOf 37 = .ok (.iaload, 1) := by decide +kernel
theorem dX0_hasLettersOf_38 : decode cX0_hasLettersOf 38 = .ok (.aload_n 1, 1) := by decide +kernel
theorem dX0_hasLettersOf_39 : decode cX0_hasLettersOf 39 = .ok (.getfield 19, 3) := by decide +kernel
theorem dX0_hasLettersOf_42 : decode cX0_hasLettersOf 42 = .ok (.iload_n 2, 1) := by decide +kernel
theorem dX0_hasLettersOf_43 : decode cX0_hasLettersOf 43 = .ok (.iaload, 1) := by decide +kernel
theorem dX0_hasLettersOf_44 : decode cX0_hasLettersOf 44 = .ok (.if_icmp .eq 5, 3) := by decide +kernel
theorem dX0_hasLettersOf_47 : decode cX0_hasLettersOf 47 = .ok (.iconst 0, 1) := by decide +kernel
theorem dX0_hasLettersOf_48 : decode cX0_hasLettersOf 48 = .ok (.ireturn, 1) := by decide +kernel
theorem dX0_hasLettersOf_49 : decode cX0_hasLettersOf 49 = .ok (.iinc 2 1, 3) := by decide +kernel
theorem dX0_hasLettersOf_52 : decode cX0_hasLettersOf 52 = .ok (.goto (-37), 3) := by decide +kernel
theorem dX0_hasLettersOf_55 : decode cX0_hasLettersOf 55 = .ok (.iconst 1, 1) := by decide +kernel
theorem dX0_hasLettersOf_56 : decode cX0_hasLettersOf 56 = .ok (.ireturn, 1) := by decide +kernel
theorem dX0_spell_0 : decode cX0_spell 0 = .ok (.iload 4, 2) := by decide +kernel
theorem dX0_spell_2 : decode cX0_spell 2 = .ok (.bipush 6, 2) := by decide +kernel
theorem dX0_spell_4 : decode cX0_spell 4 = .ok (.if_icmp .le 5, 3) := by decide +kernel
theorem dX0_spell_7 : decode cX0_spell 7 = .ok (.iload_n 3, 1) := by decide +kernel
theorem dX0_spell_8 : decode cX0_spell 8 = .ok (.ireturn, 1) := by decide +kernel
theorem dX0_spell_9 : decode cX0_spell 9 = .ok (.aload_n 0, 1) := by decide +kernel
theorem dX0_spell_10 : decode cX0_spell 10 = .ok (.getfield 32, 3) := by decide +kernel
theorem dX0_spell_13 : decode cX0_spell 13 = .ok (.iload_n 1, 1) := by decide +kernel
theorem dX0_spell_14 : decode cX0_spell 14 = .ok (.bipush 31, 2) := by decide +kernel
theorem dX0_spell_16 : decode cX0_spell 16 = .ok (.iand, 1) := by decide +kernel
theorem dX0_spell_17 : decode cX0_spell 17 = .ok (.iaload, 1) := by decide +kernel
theorem dX0_spell_18 : decode cX0_spell 18 = .ok (.istore 5, 2) := by decide +kernel
theorem dX0_spell_20 : decode cX0_spell 20 = .ok (.iload 5, 2) := by decide +kernel
theorem dX0_spell_22 : decode cX0_spell 22 = .ok (.bipush 8, 2) := by decide +kernel
theorem dX0_spell_24 : decode cX0_spell 24 = .ok (.if_icmp .ge 27, 3) := by decide +kernel
theorem dX0_spell_27 : decode cX0_spell 27 = .ok (.aload_n 0, 1) := by decide +kernel
theorem dX0_spell_28 : decode cX0_spell 28 = .ok (.getfield 19, 3) := by decide +kernel
theorem dX0_spell_31 : decode cX0_spell 31 = .ok (.iload_n 2, 1) := by decide +kernel
theorem dX0_spell_32 : decode cX0_spell 32 = .ok (.ifCond .eq 10, 3) := by decide +kernel
theorem dX0_spell_35 : decode cX0_spell 35 = .ok (.iconst (-1), 1) := by decide +kernel
theorem dX0_spell_36 : decode cX0_spell 36 = .ok (.iload 5, 2) := by decide +kernel
theorem dX0_spell_38 : decode cX0_spell 38 = .ok (.isub, 1) := by decide +kernel
theorem dX0_spell_39 : decode cX0_spell 39 = .ok (.goto 7, 3) := by decide +kernel
theorem dX0_spell_42 : decode cX0_spell 42 = .ok (.iconst 1, 1) := by decide +kernel
theorem dX0_spell_43 : decode cX0_spell 43 = .ok (.iload 5, 2) := by decide +kernel
theorem dX0_spell_45 : decode cX0_spell 45 = .ok (.iadd, 1) := by decide +kernel
theorem dX0_spell_46 : decode cX0_spell 46 = .ok (.iload_n 3, 1) := by decide +kernel
theorem dX0_spell_47 : decode cX0_spell 47 = .ok (.invokestatic 86, 3) := by decide +kernel
theorem dX0_spell_50 : decode cX0_spell 50 = .ok (.ireturn, 1) := by decide +kernel
theorem dX0_spell_51 : decode cX0_spell 51 = .ok (.aload_n 0, 1) := by decide +kernel
theorem dX0_spell_52 : decode cX0_spell 52 = .ok (.getfield 35, 3) := by decide +kernel
theorem dX0_spell_55 : decode cX0_spell 55 = .ok (.iload_n 1, 1) := by decide +kernel
theorem dX0_spell_56 : decode cX0_spell 56 = .ok (.bipush 31, 2) := by decide +kernel
theorem dX0_spell_58 : decode cX0_spell 58 = .ok (.iand, 1) := by decide +kernel
theorem dX0_spell_59 : decode cX0_spell 59 = .ok (.iaload, 1) := by decide +kernel
theorem dX0_spell_60 : decode cX0_spell 60 = .ok (.istore 6, 2) := by decide +kernel
theorem dX0_spell_62 : decode cX0_spell 62 = .ok (.aload_n 0, 1) := by decide +kernel
theorem dX0_spell_63 : decode cX0_spell 63 = .ok (.getfield 38, 3) := by decide +kernel
theorem dX0_spell_66 : decode cX0_spell 66 = .ok (.iload_n 1, 1) := by decide +kernel
theorem dX0_spell_67 : decode cX0_spell 67 = .ok (.bipush 31, 2) := by decide +kernel
theorem dX0_spell_69 : decode cX0_spell 69 = .ok (.iand, 1) := by decide +kernel
theorem dX0_spell_70 : decode cX0_spell 70 = .ok (.iaload, 1) := by decide +kernel
theorem dX0_spell_71 : decode cX0_spell 71 = .ok (.istore 7, 2) := by decide +kernel
theorem dX0_spell_73 : decode cX0_spell 73 = .ok (.iload 5, 2) := by decide +kernel
theorem dX0_spell_75 : decode cX0_spell 75 = .ok (.bipush 10, 2) := by decide +kernel
theorem dX0_spell_77 : decode cX0_spell 77 = .ok (.if_icmp .eq 7, 3) := by decide +kernel
theorem dX0_spell_80 : decode cX0_spell 80 = .ok (.iconst 1, 1) := by decide +kernel
theorem dX0_spell_81 : decode cX0_spell 81 = .ok (.goto 4, 3) := by decide +kernel
theorem dX0_spell_84 : decode cX0_spell 84 = .ok (.iconst 0, 1) := by decide +kernel
theorem dX0_spell_85 : decode cX0_spell 85 = .ok (.iload_n 2, 1) := by decide +kernel
theorem dX0_spell_86 : decode cX0_spell 86 = .ok (.if_icmp .eq 7, 3) := by decide +kernel
theorem dX0_spell_89 : decode cX0_spell 89 = .ok (.iconst 1, 1) := by decide +kernel
theorem dX0_spell_90 : decode cX0_spell 90 = .ok (.goto 4, 3) := by decide +kernel
theorem dX0_spell_93 : decode cX0_spell 93 = .ok (.iconst 0, 1) := by decide +kernel
theorem dX0_spell_94 : decode cX0_spell 94 = .ok (.istore 8, 2) := by decide +kernel
theorem dX0_spell_96 : decode cX0_spell 96 = .ok (.iload 5, 2) := by decide +kernel
theorem dX0_spell_98 : decode cX0_spell 98 = .ok (.bipush 9, 2) := by decide +kernel
theorem dX0_spell_100 : decode cX0_spell 100 = .ok (.if_icmp .ne 7, 3) := by decide +kernel
theorem dX0_spell_103 : decode cX0_spell 103 = .ok (.iconst 1, 1) := by decide +kernel
theorem dX0_spell_104 : decode cX0_spell 104 = .ok (.goto 4, 3) := by decide +kernel
theorem dX0_spell_107 : decode cX0_spell 107 = .ok (.iconst 0, 1) := by decide +kernel
theorem dX0_spell_108 : decode cX0_spell 108 = .ok (.iload_n 2, 1) := by decide +kernel
theorem dX0_spell_109 : decode cX0_spell 109 = .ok (.if_icmp .eq 28, 3) := by decide +kernel
theorem dX0_spell_112 : decode cX0_spell 112 = .ok (.aload_n 0, 1) := by decide +kernel
theorem dX0_spell_113 : decode cX0_spell 113 = .ok (.iload 6, 2) := by decide +kernel
theorem dX0_spell_115 : decode cX0_spell 115 = .ok (.iload_n 2, 1) := by decide +kernel
theorem dX0_spell_116 : decode cX0_spell 116 = .ok (.aload_n 0, 1) := by decide +kernel
theorem dX0_spell_117 : decode cX0_spell 117 = .ok (.iload 7, 2) := by decide +kernel
theorem dX0_spell_119 : decode cX0_spell 119 = .ok (.iload 8, 2) := by decide +kernel
theorem dX0_spell_121 : decode cX0_spell 121 = .ok (.iload_n 3, 1) := by decide +kernel
theorem dX0_spell_122 : decode cX0_spell 122 = .ok (.iload 4, 2) := by decide +kernel
theorem dX0_spell_124 : decode cX0_spell 124 = .ok (.iconst 1, 1) := by decide +kernel
theorem dX0_spell_125 : decode cX0_spell 125 = .ok (.iadd, 1) := by decide +kernel
theorem dX0_spell_126 : decode cX0_spell 126 = .ok (.invokestatic 71, 3) := by decide +kernel
theorem dX0_spell_129 : decode cX0_spell 129 = .ok (.iload 4, 2) := by decide +kernel
theorem dX0_spell_131 : decode cX0_spell 131 = .ok (.iconst 1, 1) := by decide +kernel
theorem dX0_spell_132 : decode cX0_spell 132 = .ok (.iadd, 1) := by decide +kernel
theorem dX0_spell_133 : decode cX0_spell 133 = .ok (.invokestatic 71, 3) := by decide +kernel
theorem dX0_spell_136 : decode cX0_spell 136 = .ok (.ireturn, 1) := by decide +kernel
theorem dX0_spell_137 : decode cX0_spell 137 = .ok (.aload_n 0, 1) := by decide +kernel
theorem dX0_spell_138 : decode cX0_spell 138 = .ok (.iload 7, 2) := by decide +kernel
theorem dX0_spell_140 : decode cX0_spell 140 = .ok (.iload 8, 2) := by decide +kernel
theorem dX0_spell_142 : decode cX0_spell 142 = .ok (.aload_n 0, 1) := by decide +kernel
theorem dX0_spell_143 : decode cX0_spell 143 = .ok (.iload 6, 2) := by decide +kernel
theorem dX0_spell_145 : decode cX0_spell 145 = .ok (.iload_n 2, 1) := by decide +kernel
theorem dX0_spell_146 : decode cX0_spell 146 = .ok (.iload_n 3, 1) := by decide +kernel
theorem dX0_spell_147 : decode cX0_spell 147 = .ok (.iload 4, 2) := by decide +kernel
theorem dX0_spell_149 : decode cX0_spell 149 = .ok (.iconst 1, 1) := by decide +kernel
theorem dX0_spell_150 : decode cX0_spell 150 = .ok (.iadd, 1) := by decide +kernel
theorem dX0_spell_151 : decode cX0_spell 151 = .ok (.invokestatic 71, 3) := by decide +kernel
theorem dX0_spell_154 : decode cX0_spell 154 = .ok (.iload 4, 2) := by decide +kernel
theorem dX0_spell_156 : decode cX0_spell 156 = .ok (.iconst 1, 1) := by decide +kernel
theorem dX0_spell_157 : decode cX0_spell 157 = .ok (.iadd, 1) := by decide +kernel
theorem dX0_spell_158 : decode cX0_spell 158 = .ok (.invokestatic 71, 3) := by decide +kernel
theorem dX0_spell_161 : decode cX0_spell 161 = .ok (.ireturn, 1) := by decide +kernel
theorem dX0_spellAtom_0 : decode cX0_spellAtom 0 = .ok (.iload_n 2, 1) := by decide +kernel
theorem dX0_spellAtom_1 : decode cX0_spellAtom 1 = .ok (.ifCond .le 23, 3) := by decide +kernel
theorem dX0_spellAtom_4 : decode cX0_spellAtom 4 = .ok (.iload_n 2, 1) := by decide +kernel
theorem dX0_spellAtom_5 : decode cX0_spellAtom 5 = .ok (.aload_n 0, 1) := by decide +kernel
theorem dX0_spellAtom_6 : decode cX0_spellAtom 6 = .ok (.arraylength, 1) := by decide +kernel
theorem dX0_spellAtom_7 : decode cX0_spellAtom 7 = .ok (.if_icmp .gt 17, 3) := by decide +kernel
theorem dX0_spellAtom_10 : decode cX0_spellAtom 10 = .ok (.aload_n 0, 1) := by decide +kernel
theorem dX0_spellAtom_11 : decode cX0_spellAtom 11 = .ok (.iload_n 2, 1) := by decide +kernel
theorem dX0_spellAtom_12 : decode cX0_spellAtom 12 = .ok (.iconst 1, 1) := by decide +kernel
theorem dX0_spellAtom_13 : decode cX0_spellAtom 13 = .ok (.isub, 1) := by decide +kernel
theorem dX0_spellAtom_14 : decode cX0_spellAtom 14 = .ok (.iaload, 1) := by decide +kernel
theorem dX0_spellAtom_15 : decode cX0_spellAtom 15 = .ok (.iload_n 1, 1) := by decide +kernel
theorem dX0_spellAtom_16 : decode cX0_spellAtom 16 = .ok (.ineg, 1) := by decide +kernel
theorem dX0_spellAtom_17 : decode cX0_spellAtom 17 = .ok (.if_icmp .ne 7, 3) := by decide +kernel
theorem dX0_spellAtom_20 : decode cX0_spellAtom 20 = .ok (.iload_n 2, 1) := by decide +kernel
theorem dX0_spellAtom_21 : decode cX0_spellAtom 21 = .ok (.iconst 1, 1) := by decide +kernel
theorem dX0_spellAtom_22 : decode cX0_spellAtom 22 = .ok (.isub, 1) := by decide +kernel
theorem dX0_spellAtom_23 : decode cX0_spellAtom 23 = .ok (.ireturn, 1) := by decide +kernel
theorem dX0_spellAtom_24 : decode cX0_spellAtom 24 = .ok (.iload_n 2, 1) := by decide +kernel
theorem dX0_spellAtom_25 : decode cX0_spellAtom 25 = .ok (.ifCond .lt 9, 3) := by decide +kernel
theorem dX0_spellAtom_28 : decode cX0_spellAtom 28 = .ok (.iload_n 2, 1) := by decide +kernel
theorem dX0_spellAtom_29 : decode cX0_spellAtom 29 = .ok (.aload_n 0, 1) := by decide +kernel
theorem dX0_spellAtom_30 : decode cX0_spellAtom 30 = .ok (.arraylength, 1) := by decide +kernel
theorem dX0_spellAtom_31 : decode cX0_spellAtom 31 = .ok (.if_icmp .lt 5, 3) := by decide +kernel
theorem dX0_spellAtom_34 : decode cX0_spellAtom 34 = .ok (.iload_n 2, 1) := by decide +kernel
theorem dX0_spellAtom_35 : decode cX0_spellAtom 35 = .ok (.ireturn, 1) := by decide +kernel
theorem dX0_spellAtom_36 : decode cX0_spellAtom 36 = .ok (.aload_n 0, 1) := by decide +kernel
theorem dX0_spellAtom_37 : decode cX0_spellAtom 37 = .ok (.iload_n 2, 1) := by decide +kernel
theorem dX0_spellAtom_38 : decode cX0_spellAtom 38 = .ok (.iload_n 1, 1) := by decide +kernel
theorem dX0_spellAtom_39 : decode cX0_spellAtom 39 = .ok (.iastore, 1) := by decide +kernel
theorem dX0_spellAtom_40 : decode cX0_spellAtom 40 = .ok (.iload_n 2, 1) := by decide +kernel
theorem dX0_spellAtom_41 : decode cX0_spellAtom 41 = .ok (.iconst 1, 1) := by decide +kernel
theorem dX0_spellAtom_42 : decode cX0_spellAtom 42 = .ok (.iadd, 1) := by decide +kernel
theorem dX0_spellAtom_43 : decode cX0_spellAtom 43 = .ok (.ireturn, 1) := by decide +kernel
