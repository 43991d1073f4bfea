theorem dX5_keep_145 : decode cX5_keep 145 = .ok (.baload, 1) := by decide +kernel
theorem dX5_keep_146 : decode cX5_keep 146 = .ok (.ifCond .eq 28, 3) := by decide +kernel
theorem dX5_keep_149 : decode cX5_keep 149 = .ok (.aload_n 0, 1) := by decide +kernel
theorem dX5_keep_150 : decode cX5_keep 150 = .ok (.getfield 90, 3) := by decide +kernel
theorem dX5_keep_153 : decode cX5_keep 153 = .ok (.iload 5, 2) := by decide +kernel
theorem dX5_keep_155 : decode cX5_keep 155 = .ok (.bipush 8, 2) := by decide +kernel
theorem dX5_keep_157 : decode cX5_keep 157 = .ok (.iadd, 1) := by decide +kernel
theorem dX5_keep_158 : decode cX5_keep 158 = .ok (.aload_n 0, 1) := by decide +kernel
theorem dX5_keep_159 : decode cX5_keep 159 = .ok (.getfield 13, 3) := by decide +kernel
theorem dX5_keep_162 : decode cX5_keep 162 = .ok (.iload 4, 2) := by decide +kernel
theorem dX5_keep_164 : decode cX5_keep 164 = .ok (.iaload, 1) := by decide +kernel
theorem dX5_keep_165 : decode cX5_keep 165 = .ok (.iadd, 1) := by decide +kernel
theorem dX5_keep_166 : decode cX5_keep 166 = .ok (.aload_n 0, 1) := by decide +kernel
theorem dX5_keep_167 : decode cX5_keep 167 = .ok (.getfield 84, 3) := by decide +kernel
theorem dX5_keep_170 : decode cX5_keep 170 = .ok (.iload 4, 2) := by decide +kernel
theorem dX5_keep_172 : decode cX5_keep 172 = .ok (.laload, 1) := by decide +kernel
theorem dX5_keep_173 : decode cX5_keep 173 = .ok (.lastore, 1) := by decide +kernel
theorem dX5_keep_174 : decode cX5_keep 174 = .ok (.aload_n 0, 1) := by decide +kernel
theorem dX5_keep_175 : decode cX5_keep 175 = .ok (.getfield 81, 3) := by decide +kernel
theorem dX5_keep_178 : decode cX5_keep 178 = .ok (.iload 4, 2) := by decide +kernel
theorem dX5_keep_180 : decode cX5_keep 180 = .ok (.baload, 1) := by decide +kernel
theorem dX5_keep_181 : decode cX5_keep 181 = .ok (.ifCond .eq 28, 3) := by decide +kernel
theorem dX5_keep_184 : decode cX5_keep 184 = .ok (.aload_n 0, 1) := by decide +kernel
theorem dX5_keep_185 : decode cX5_keep 185 = .ok (.getfield 90, 3) := by decide +kernel
theorem dX5_keep_188 : decode cX5_keep 188 = .ok (.iload 5, 2) := by decide +kernel
theorem dX5_keep_190 : decode cX5_keep 190 = .ok (.bipush 8, 2) := by decide +kernel
theorem dX5_keep_192 : decode cX5_keep 192 = .ok (.iadd, 1) := by decide +kernel
theorem dX5_keep_193 : decode cX5_keep 193 = .ok (.aload_n 0, 1) := by decide +kernel
theorem dX5_keep_194 : decode cX5_keep 194 = .ok (.getfield 16, 3) := by decide +kernel
theorem dX5_keep_197 : decode cX5_keep 197 = .ok (.iload 4, 2) := by decide +kernel
theorem dX5_keep_199 : decode cX5_keep 199 = .ok (.iaload, 1) := by decide +kernel
theorem dX5_keep_200 : decode cX5_keep 200 = .ok (.iadd, 1) := by decide +kernel
theorem dX5_keep_201 : decode cX5_keep 201 = .ok (.aload_n 0, 1) := by decide +kernel
theorem dX5_keep_202 : decode cX5_keep 202 = .ok (.getfield 87, 3) := by decide +kernel
theorem dX5_keep_205 : decode cX5_keep 205 = .ok (.iload 4, 2) := by decide +kernel
theorem dX5_keep_207 : decode cX5_keep 207 = .ok (.laload, 1) := by decide +kernel
theorem dX5_keep_208 : decode cX5_keep 208 = .ok (.lastore, 1) := by decide +kernel
theorem dX5_keep_209 : decode cX5_keep 209 = .ok (.aload_n 0, 1) := by decide +kernel
theorem dX5_keep_210 : decode cX5_keep 210 = .ok (.getfield 53, 3) := by decide +kernel
theorem dX5_keep_213 : decode cX5_keep 213 = .ok (.iload 4, 2) := by decide +kernel
theorem dX5_keep_215 : decode cX5_keep 215 = .ok (.iconst 3, 1) := by decide +kernel
theorem dX5_keep_216 : decode cX5_keep 216 = .ok (.iastore, 1) := by decide +kernel
theorem dX5_keep_217 : decode cX5_keep 217 = .ok (.aload_n 0, 1) := by decide +kernel
theorem dX5_keep_218 : decode cX5_keep 218 = .ok (.getfield 62, 3) := by decide +kernel
theorem dX5_keep_221 : decode cX5_keep 221 = .ok (.iload 4, 2) := by decide +kernel
theorem dX5_keep_223 : decode cX5_keep 223 = .ok (.iload_n 3, 1) := by decide +kernel
theorem dX5_keep_224 : decode cX5_keep 224 = .ok (.iastore, 1) := by decide +kernel
theorem dX5_keep_225 : decode cX5_keep 225 = .ok (.aload_n 0, 1) := by decide +kernel
theorem dX5_keep_226 : decode cX5_keep 226 = .ok (.getfield 50, 3) := by decide +kernel
theorem dX5_keep_229 : decode cX5_keep 229 = .ok (.bipush 7, 2) := by decide +kernel
theorem dX5_keep_231 : decode cX5_keep 231 = .ok (.dup2, 1) := by decide +kernel
theorem dX5_keep_232 : decode cX5_keep 232 = .ok (.iaload, 1) := by decide +kernel
theorem dX5_keep_233 : decode cX5_keep 233 = .ok (.aload_n 0, 1) := by decide +kernel
theorem dX5_keep_234 : decode cX5_keep 234 = .ok (.getfield 68, 3) := by decide +kernel
theorem dX5_keep_237 : decode cX5_keep 237 = .ok (.iload 4, 2) := by decide +kernel
theorem dX5_keep_239 : decode cX5_keep 239 = .ok (.iaload, 1) := by decide +kernel
theorem dX5_keep_240 : decode cX5_keep 240 = .ok (.iconst 2, 1) := by decide +kernel
theorem dX5_keep_241 : decode cX5_keep 241 = .ok (.if_icmp .ne 7, 3) := by decide +kernel
theorem dX5_keep_244 : decode cX5_keep 244 = .ok (.iconst 1, 1) := by decide +kernel
theorem dX5_keep_245 : decode cX5_keep 245 = .ok (.goto 4, 3) := by decide +kernel
theorem dX5_keep_248 : decode cX5_keep 248 = .ok (.iconst 0, 1) := by decide +kernel
theorem dX5_keep_249 : decode cX5_keep 249 = .ok (.iadd, 1) := by decide +kernel
theorem dX5_keep_250 : decode cX5_keep 250 = .ok (.iastore, 1) := by decide +kernel
theorem dX5_keep_251 : decode cX5_keep 251 = .ok (.iinc 4 1, 3) := by decide +kernel
theorem dX5_keep_254 : decode cX5_keep 254 = .ok (.goto (-251), 3) := by decide +kernel
theorem dX5_keep_257 : decode cX5_keep 257 = .ok (.iload 4, 2) := by decide +kernel
theorem dX5_keep_259 : decode cX5_keep 259 = .ok (.ireturn, 1) := by decide +kernel
theorem dX5_underWay_0 : decode cX5_underWay 0 = .ok (.iconst 0, 1) := by decide +kernel
theorem dX5_underWay_1 : decode cX5_underWay 1 = .ok (.istore_n 2, 1) := by decide +kernel
theorem dX5_underWay_2 : decode cX5_underWay 2 = .ok (.iconst 0, 1) := by decide +kernel
theorem dX5_underWay_3 : decode cX5_underWay 3 = .ok (.istore_n 3, 1) := by decide +kernel
theorem dX5_underWay_4 : decode cX5_underWay 4 = .ok (.iload_n 3, 1) := by decide +kernel
theorem dX5_underWay_5 : decode cX5_underWay 5 = .ok (.iload_n 1, 1) := by decide +kernel
theorem dX5_underWay_6 : decode cX5_underWay 6 = .ok (.if_icmp .ge 27, 3) := by decide +kernel
theorem dX5_underWay_9 : decode cX5_underWay 9 = .ok (.iload_n 2, 1) := by decide +kernel
theorem dX5_underWay_10 : decode cX5_underWay 10 = .ok (.aload_n 0, 1) := by decide +kernel
theorem dX5_underWay_11 : decode cX5_underWay 11 = .ok (.getfield 53, 3) := by decide +kernel
theorem dX5_underWay_14 : decode cX5_underWay 14 = .ok (.iload_n 3, 1) := by decide +kernel
theorem dX5_underWay_15 : decode cX5_underWay 15 = .ok (.iaload, 1) := by decide +kernel
theorem dX5_underWay_16 : decode cX5_underWay 16 = .ok (.iconst 1, 1) := by decide +kernel
theorem dX5_underWay_17 : decode cX5_underWay 17 = .ok (.if_icmp .ne 7, 3) := by decide +kernel
theorem dX5_underWay_20 : decode cX5_underWay 20 = .ok (.iconst 1, 1) := by decide +kernel
theorem dX5_underWay_21 : decode cX5_underWay 21 = .ok (.goto 4, 3) := by decide +kernel
theorem dX5_underWay_24 : decode cX5_underWay 24 = .ok (.iconst 0, 1) := by decide +kernel
theorem dX5_underWay_25 : decode cX5_underWay 25 = .ok (.iadd, 1) := by decide +kernel
theorem dX5_underWay_26 : decode cX5_underWay 26 = .ok (.istore_n 2, 1) := by decide +kernel
theorem dX5_underWay_27 : decode cX5_underWay 27 = .ok (.iinc 3 1, 3) := by decide +kernel
theorem dX5_underWay_30 : decode cX5_underWay 30 = .ok (.goto (-26), 3) := by decide +kernel
theorem dX5_underWay_33 : decode cX5_underWay 33 = .ok (.iload_n 2, 1) := by decide +kernel
theorem dX5_underWay_34 : decode cX5_underWay 34 = .ok (.ireturn, 1) := by decide +kernel
theorem dX5_begin_0 : decode cX5_begin 0 = .ok (.iconst 0, 1) := by decide +kernel
theorem dX5_begin_1 : decode cX5_begin 1 = .ok (.istore_n 3, 1) := by decide +kernel
theorem dX5_begin_2 : decode cX5_begin 2 = .ok (.iload_n 3, 1) := by decide +kernel
theorem dX5_begin_3 : decode cX5_begin 3 = .ok (.bipush 8, 2) := by decide +kernel
theorem dX5_begin_5 : decode cX5_begin 5 = .ok (.if_icmp .ge 23, 3) := by decide +kernel
theorem dX5_begin_8 : decode cX5_begin 8 = .ok (.aload_n 0, 1) := by decide +kernel
theorem dX5_begin_9 : decode cX5_begin 9 = .ok (.getfield 50, 3) := by decide +kernel
theorem dX5_begin_12 : decode cX5_begin 12 = .ok (.iload_n 3, 1) := by decide +kernel
theorem dX5_begin_13 : decode cX5_begin 13 = .ok (.iconst 0, 1) := by decide +kernel
theorem dX5_begin_14 : decode cX5_begin 14 = .ok (.iastore, 1) := by decide +kernel
theorem dX5_begin_15 : decode cX5_begin 15 = .ok (.aload_n 0, 1) := by decide +kernel
theorem dX5_begin_16 : decode cX5_begin 16 = .ok (.getfield 90, 3) := by decide +kernel
theorem dX5_begin_19 : decode cX5_begin 19 = .ok (.iload_n 3, 1) := by decide +kernel
theorem dX5_begin_20 : decode cX5_begin 20 = .ok (.lconst 0, 1) := by decide +kernel
theorem dX5_begin_21 : decode cX5_begin 21 = .ok (.lastore, 1) := by decide +kernel
theorem dX5_begin_22 : decode cX5_begin 22 = .ok (.iinc 3 1, 3) := by decide +kernel
theorem dX5_begin_25 : decode cX5_begin 25 = .ok (.goto (-23), 3) := by decide +kernel
theorem dX5_begin_28 : decode cX5_begin 28 = .ok (.aload_n 0, 1) := by decide +kernel
theorem dX5_begin_29 : decode cX5_begin 29 = .ok (.getfield 50, 3) := by decide +kernel
theorem dX5_begin_32 : decode cX5_begin 32 = .ok (.iconst 0, 1) := by decide +kernel
theorem dX5_begin_33 : decode cX5_begin 33 = .ok (.iload_n 1, 1) := by decide +kernel
theorem dX5_begin_34 : decode cX5_begin 34 = .ok (.iastore, 1) := by decide +kernel
theorem dX5_begin_35 : decode cX5_begin 35 = .ok (.iconst 0, 1) := by decide +kernel
theorem dX5_begin_36 : decode cX5_begin 36 = .ok (.istore_n 3, 1) := by decide +kernel
theorem dX5_begin_37 : decode cX5_begin 37 = .ok (.iload_n 3, 1) := by decide +kernel
theorem dX5_begin_38 : decode cX5_begin 38 = .ok (.iload_n 1, 1) := by decide +kernel
theorem dX5_begin_39 : decode cX5_begin 39 = .ok (.if_icmp .ge 51, 3) := by decide +kernel
theorem dX5_begin_42 : decode cX5_begin 42 = .ok (.aload_n 0, 1) := by decide +kernel
theorem dX5_begin_43 : decode cX5_begin 43 = .ok (.getfield 53, 3) := by decide +kernel
theorem dX5_begin_46 : decode cX5_begin 46 = .ok (.iload_n 3, 1) := by decide +kernel
theorem dX5_begin_47 : decode cX5_begin 47 = .ok (.iconst 0, 1) := by decide +kernel
theorem dX5_begin_48 : decode cX5_begin 48 = .ok (.iastore, 1) := by decide +kernel
theorem dX5_begin_49 : decode cX5_begin 49 = .ok (.aload_n 0, 1) := by decide +kernel
theorem dX5_begin_50 : decode cX5_begin 50 = .ok (.getfield 56, 3) := by decide +kernel
theorem dX5_begin_53 : decode cX5_begin 53 = .ok (.iload_n 3, 1) := by decide +kernel
theorem dX5_begin_54 : decode cX5_begin 54 = .ok (.iconst 0, 1) := by decide +kernel
theorem dX5_begin_55 : decode cX5_begin 55 = .ok (.iastore, 1) := by decide +kernel
theorem dX5_begin_56 : decode cX5_begin 56 = .ok (.aload_n 0, 1) := by decide +kernel
theorem dX5_begin_57 : decode cX5_begin 57 = .ok (.getfield 59, 3) := by decide +kernel
theorem dX5_begin_60 : decode cX5_begin 60 = .ok (.iload_n 3, 1) := by decide +kernel
theorem dX5_begin_61 : decode cX5_begin 61 = .ok (.iconst 0, 1) := by decide +kernel
theorem dX5_begin_62 : decode cX5_begin 62 = .ok (.iastore, 1) := by decide +kernel
theorem dX5_begin_63 : decode cX5_begin 63 = .ok (.aload_n 0, 1) := by decide +kernel
theorem dX5_begin_64 : decode cX5_begin 64 = .ok (.getfield 62, 3) := by decide +kernel
theorem dX5_begin_67 : decode cX5_begin 67 = .ok (.iload_n 3, 1) := by decide +kernel
theorem dX5_begin_68 : decode cX5_begin 68 = .ok (.iconst 0, 1) := by decide +kernel
theorem dX5_begin_69 : decode cX5_begin 69 = .ok (.iastore, 1) := by decide +kernel
theorem dX5_begin_70 : decode cX5_begin 70 = .ok (.aload_n 0, 1) := by decide +kernel
theorem dX5_begin_71 : decode cX5_begin 71 = .ok (.getfield 65, 3) := by decide +kernel
theorem dX5_begin_74 : decode cX5_begin 74 = .ok (.iload_n 3, 1) := by decide +kernel
theorem dX5_begin_75 : decode cX5_begin 75 = .ok (.iconst (-1), 1) := by decide +kernel
theorem dX5_begin_76 : decode cX5_begin 76 = .ok (.iastore, 1) := by decide +kernel
theorem dX5_begin_77 : decode cX5_begin 77 = .ok (.aload_n 0, 1) := by decide +kernel
theorem dX5_begin_78 : decode cX5_begin 78 = .ok (.getfield 68, 3) := by decide +kernel
theorem dX5_begin_81 : decode cX5_begin 81 = .ok (.iload_n 3, 1) := by decide +kernel
theorem dX5_begin_82 : decode cX5_begin 82 = .ok (.iconst 0, 1) := by decide +kernel
theorem dX5_begin_83 : decode cX5_begin 83 = .ok (.iastore, 1) := by decide +kernel
theorem dX5_begin_84 : decode cX5_begin 84 = .ok (.iinc 3 1, 3) := by decide +kernel
theorem dX5_begin_87 : decode cX5_begin 87 = .ok (.goto (-50), 3) := by decide +kernel
theorem dX5_begin_90 : decode cX5_begin 90 = .ok (.iconst 0, 1) := by decide +kernel
theorem dX5_begin_91 : decode cX5_begin 91 = .ok (.istore_n 3, 1) := by decide +kernel
theorem dX5_begin_92 : decode cX5_begin 92 = .ok (.iload_n 3, 1) := by decide +kernel
theorem dX5_begin_93 : decode cX5_begin 93 = .ok (.iload_n 2, 1) := by decide +kernel
theorem dX5_begin_94 : decode cX5_begin 94 = .ok (.if_icmp .ge 30, 3) := by decide +kernel
theorem dX5_begin_97 : decode cX5_begin 97 = .ok (.aload_n 0, 1) := by decide +kernel
theorem dX5_begin_98 : decode cX5_begin 98 = .ok (.getfield 93, 3) := by decide +kernel
theorem dX5_begin_101 : decode cX5_begin 101 = .ok (.iload_n 3, 1) := by decide +kernel
theorem dX5_begin_102 : decode cX5_begin 102 = .ok (.iconst (-1), 1) := by decide +kernel
theorem dX5_begin_103 : decode cX5_begin 103 = .ok (.iastore, 1) := by decide +kernel
theorem dX5_begin_104 : decode cX5_begin 104 = .ok (.aload_n 0, 1) := by decide +kernel
theorem dX5_begin_105 : decode cX5_begin 105 = .ok (.getfield 99, 3) := by decide +kernel
theorem dX5_begin_108 : decode cX5_begin 108 = .ok (.iload_n 3, 1) := by decide +kernel
theorem dX5_begin_109 : decode cX5_begin 109 = .ok (.iconst 0, 1) := by decide +kernel
theorem dX5_begin_110 : decode cX5_begin 110 = .ok (.iastore, 1) := by decide +kernel
theorem dX5_begin_111 : decode cX5_begin 111 = .ok (.aload_n 0, 1) := by decide +kernel
theorem dX5_begin_112 : decode cX5_begin 112 = .ok (.getfield 102, 3) := by decide +kernel
theorem dX5_begin_115 : decode cX5_begin 115 = .ok (.iload_n 3, 1) := by decide +kernel
theorem dX5_begin_116 : decode cX5_begin 116 = .ok (.iconst 0, 1) := by decide +kernel
theorem dX5_begin_117 : decode cX5_begin 117 = .ok (.bastore, 1) := by decide +kernel
theorem dX5_begin_118 : decode cX5_begin 118 = .ok (.iinc 3 1, 3) := by decide +kernel
theorem dX5_begin_121 : decode cX5_begin 121 = .ok (.goto (-29), 3) := by decide +kernel
theorem dX5_begin_124 : decode cX5_begin 124 = .ok (.return_, 1) := by decide +kernel
theorem dX5_goes_0 : decode cX5_goes 0 = .ok (.aload_n 0, 1) := by decide +kernel
theorem dX5_goes_1 : decode cX5_goes 1 = .ok (.iload_n 1, 1) := by decide +kernel
theorem dX5_goes_2 : decode cX5_goes 2 = .ok (.iload_n 2, 1) := by decide +kernel
theorem dX5_goes_3 : decode cX5_goes 3 = .ok (.invokevirtual 136, 3) := by decide +kernel
theorem dX5_goes_6 : decode cX5_goes 6 = .ok (.iload_n 3, 1) := by decide +kernel
theorem dX5_goes_7 : decode cX5_goes 7 = .ok (.istore 5, 2) := by decide +kernel
theorem dX5_goes_9 : decode cX5_goes 9 = .ok (.iconst 0, 1) := by decide +kernel
theorem dX5_goes_10 : decode cX5_goes 10 = .ok (.istore 6, 2) := by decide +kernel
theorem dX5_goes_12 : decode cX5_goes 12 = .ok (.iload 6, 2) := by decide +kernel
theorem dX5_goes_14 : decode cX5_goes 14 = .ok (.iload_n 1, 1) := by decide +kernel
theorem dX5_goes_15 : decode cX5_goes 15 = .ok (.if_icmp .ge 204, 3) := by decide +kernel
theorem dX5_goes_18 : decode cX5_goes 18 = .ok (.aload_n 0, 1) := by decide +kernel
theorem dX5_goes_19 : decode cX5_goes 19 = .ok (.getfield 50, 3) := by decide +kernel
theorem dX5_goes_22 : decode cX5_goes 22 = .ok (.iconst 1, 1) := by decide +kernel
theorem dX5_goes_23 : decode cX5_goes 23 = .ok (.iaload, 1) := by decide +kernel
theorem dX5_goes_24 : decode cX5_goes 24 = .ok (.sipush 30000, 3) := by decide +kernel
theorem dX5_goes_27 : decode cX5_goes 27 = .ok (.if_icmp .ne 5, 3) := by decide +kernel
theorem dX5_goes_30 : decode cX5_goes 30 = .ok (.iconst 0, 1) := by decide +kernel
theorem dX5_goes_31 : decode cX5_goes 31 = .ok (.ireturn, 1) := by decide +kernel
theorem dX5_goes_32 : decode cX5_goes 32 = .ok (.aload_n 0, 1) := by decide +kernel
theorem dX5_goes_33 : decode cX5_goes 33 = .ok (.getfield 50, 3) := by decide +kernel
theorem dX5_goes_36 : decode cX5_goes 36 = .ok (.iconst 1, 1) := by decide +kernel
theorem dX5_goes_37 : decode cX5_goes 37 = .ok (.dup2, 1) := by decide +kernel
theorem dX5_goes_38 : decode cX5_goes 38 = .ok (.iaload, 1) := by decide +kernel
theorem dX5_goes_39 : decode cX5_goes 39 = .ok (.iconst 1, 1) := by decide +kernel
theorem dX5_goes_40 : decode cX5_goes 40 = .ok (.iadd, 1) := by decide +kernel
theorem dX5_goes_41 : decode cX5_goes 41 = .ok (.iastore, 1) := by decide +kernel
theorem dX5_goes_42 : decode cX5_goes 42 = .ok (.aload_n 0, 1) := by decide +kernel
theorem dX5_goes_43 : decode cX5_goes 43 = .ok (.getfield 50, 3) := by decide +kernel
theorem dX5_goes_46 : decode cX5_goes 46 = .ok (.iconst 1, 1) := by decide +kernel
theorem dX5_goes_47 : decode cX5_goes 47 = .ok (.iaload, 1) := by decide +kernel
theorem dX5_goes_48 : decode cX5_goes 48 = .ok (.istore 7, 2) := by decide +kernel
theorem dX5_goes_50 : decode cX5_goes 50 = .ok (.iload 5, 2) := by decide +kernel
theorem dX5_goes_52 : decode cX5_goes 52 = .ok (.ldc 140, 2) := by decide +kernel
theorem dX5_goes_54 : decode cX5_goes 54 = .ok (.imul, 1) := by decide +kernel
theorem dX5_goes_55 : decode cX5_goes 55 = .ok (.sipush 12345, 3) := by decide +kernel
theorem dX5_goes_58 : decode cX5_goes 58 = .ok (.iadd, 1) := by decide +kernel
theorem dX5_goes_59 : decode cX5_goes 59 = .ok (.istore 5, 2) := by decide +kernel
theorem dX5_goes_61 : decode cX5_goes 61 = .ok (.aload_n 0, 1) := by decide +kernel
theorem dX5_goes_62 : decode cX5_goes 62 = .ok (.iload 5, 2) := by decide +kernel
theorem dX5_goes_64 : decode cX5_goes 64 = .ok (.bipush 16, 2) := by decide +kernel
theorem dX5_goes_66 : decode cX5_goes 66 = .ok (.iushr, 1) := by decide +kernel
theorem dX5_goes_67 : decode cX5_goes 67 = .ok (.iload_n 2, 1) := by decide +kernel
theorem dX5_goes_68 : decode cX5_goes 68 = .ok (.aload_n 0, 1) := by decide +kernel
theorem dX5_goes_69 : decode cX5_goes 69 = .ok (.getfield 50, 3) := by decide +kernel
theorem dX5_goes_72 : decode cX5_goes 72 = .ok (.iconst 4, 1) := by decide +kernel
theorem dX5_goes_73 : decode cX5_goes 73 = .ok (.iaload, 1) := by decide +kernel
theorem dX5_goes_74 : decode cX5_goes 74 = .ok (.isub, 1) := by decide +kernel
theorem dX5_goes_75 : decode cX5_goes 75 = .ok (.irem, 1) := by decide +kernel
theorem dX5_goes_76 : decode cX5_goes 76 = .ok (.iload_n 2, 1) := by decide +kernel
theorem dX5_goes_77 : decode cX5_goes 77 = .ok (.invokevirtual 141, 3) := by decide +kernel
theorem dX5_goes_80 : decode cX5_goes 80 = .ok (.istore 8, 2) := by decide +kernel
theorem dX5_goes_82 : decode cX5_goes 82 = .ok (.aload_n 0, 1) := by decide +kernel
theorem dX5_goes_83 : decode cX5_goes 83 = .ok (.getfield 93, 3) := by decide +kernel
theorem dX5_goes_86 : decode cX5_goes 86 = .ok (.iload 8, 2) := by decide +kernel
theorem dX5_goes_88 : decode cX5_goes 88 = .ok (.iaload, 1) := by decide +kernel
theorem dX5_goes_89 : decode cX5_goes 89 = .ok (.iconst (-1), 1) := by decide +kernel
theorem dX5_goes_90 : decode cX5_goes 90 = .ok (.if_icmp .eq 12, 3) := by decide +kernel
theorem dX5_goes_93 : decode cX5_goes 93 = .ok (.aload_n 0, 1) := by decide +kernel
theorem dX5_goes_94 : decode cX5_goes 94 = .ok (.iload 8, 2) := by decide +kernel
theorem dX5_goes_96 : decode cX5_goes 96 = .ok (.invokevirtual 145, 3) := by decide +kernel
theorem dX5_goes_99 : decode cX5_goes 99 = .ok (.goto 59, 3) := by decide +kernel
theorem dX5_goes_102 : decode cX5_goes 102 = .ok (.aload_n 0, 1) := by decide +kernel
theorem dX5_goes_103 : decode cX5_goes 103 = .ok (.iload 6, 2) := by decide +kernel
theorem dX5_goes_105 : decode cX5_goes 105 = .ok (.iload 6, 2) := by decide +kernel
theorem dX5_goes_107 : decode cX5_goes 107 = .ok (.iload 4, 2) := by decide +kernel
theorem dX5_goes_109 : decode cX5_goes 109 = .ok (.iadd, 1) := by decide +kernel
theorem dX5_goes_110 : decode cX5_goes 110 = .ok (.iload_n 1, 1) := by decide +kernel
theorem dX5_goes_111 : decode cX5_goes 111 = .ok (.if_icmp .ge 11, 3) := by decide +kernel
theorem dX5_goes_114 : decode cX5_goes 114 = .ok (.iload 6, 2) := by decide +kernel
theorem dX5_goes_116 : decode cX5_goes 116 = .ok (.iload 4, 2) := by decide +kernel
theorem dX5_goes_118 : decode cX5_goes 118 = .ok (.iadd, 1) := by decide +kernel
theorem dX5_goes_119 : decode cX5_goes 119 = .ok (.goto 4, 3) := by decide +kernel
theorem dX5_goes_122 : decode cX5_goes 122 = .ok (.iload_n 1, 1) := by decide +kernel
theorem dX5_goes_123 : decode cX5_goes 123 = .ok (.invokevirtual 148, 3) := by decide +kernel
theorem dX5_goes_126 : decode cX5_goes 126 = .ok (.istore 9, 2) := by decide +kernel
theorem dX5_goes_128 : decode cX5_goes 128 = .ok (.iload 9, 2) := by decide +kernel
theorem dX5_goes_130 : decode cX5_goes 130 = .ok (.iconst (-1), 1) := by decide +kernel
theorem dX5_goes_131 : decode cX5_goes 131 = .ok (.if_icmp .ne 17, 3) := by decide +kernel
theorem dX5_goes_134 : decode cX5_goes 134 = .ok (.aload_n 0, 1) := by decide +kernel
theorem dX5_goes_135 : decode cX5_goes 135 = .ok (.getfield 50, 3) := by decide +kernel
theorem dX5_goes_138 : decode cX5_goes 138 = .ok (.bipush 6, 2) := by decide +kernel
theorem dX5_goes_140 : decode cX5_goes 140 = .ok (.dup2, 1) := by decide +kernel
theorem dX5_goes_141 : decode cX5_goes 141 = .ok (.iaload, 1) := by decide +kernel
theorem dX5_goes_142 : decode cX5_goes 142 = .ok (.iconst 1, 1) := by decide +kernel
theorem dX5_goes_143 : decode cX5_goes 143 = .ok (.iadd, 1) := by decide +kernel
theorem dX5_goes_144 : decode cX5_goes 144 = .ok (.iastore, 1) := by decide +kernel
theorem dX5_goes_145 : decode cX5_goes 145 = .ok (.goto 13, 3) := by decide +kernel
theorem dX5_goes_148 : decode cX5_goes 148 = .ok (.aload_n 0, 1) := by decide +kernel
theorem dX5_goes_149 : decode cX5_goes 149 = .ok (.iload 8, 2) := by decide +kernel
theorem dX5_goes_151 : decode cX5_goes 151 = .ok (.iload 9, 2) := by decide +kernel
theorem dX5_goes_153 : decode cX5_goes 153 = .ok (.iload 7, 2) := by decide +kernel
theorem dX5_goes_155 : decode cX5_goes 155 = .ok (.invokevirtual 151, 3) := by decide +kernel
theorem dX5_goes_158 : decode cX5_goes 158 = .ok (.aload_n 0, 1) := by decide +kernel
theorem dX5_goes_159 : decode cX5_goes 159 = .ok (.iload 6, 2) := by decide +kernel
theorem dX5_goes_161 : decode cX5_goes 161 = .ok (.iload_n 1, 1) := by decide +kernel
theorem dX5_goes_162 : decode cX5_goes 162 = .ok (.iload 7, 2) := by decide +kernel
theorem dX5_goes_164 : decode cX5_goes 164 = .ok (.invokevirtual 155, 3) := by decide +kernel
theorem dX5_goes_167 : decode cX5_goes 167 = .ok (.istore 6, 2) := by decide +kernel
theorem dX5_goes_169 : decode cX5_goes 169 = .ok (.aload_n 0, 1) := by decide +kernel
theorem dX5_goes_170 : decode cX5_goes 170 = .ok (.iload_n 1, 1) := by decide +kernel
theorem dX5_goes_171 : decode cX5_goes 171 = .ok (.invokevirtual 159, 3) := by decide +kernel
theorem dX5_goes_174 : decode cX5_goes 174 = .ok (.istore 9, 2) := by decide +kernel
theorem dX5_goes_176 : decode cX5_goes 176 = .ok (.aload_n 0, 1) := by decide +kernel
theorem dX5_goes_177 : decode cX5_goes 177 = .ok (.getfield 50, 3) := by decide +kernel
theorem dX5_goes_180 : decode cX5_goes 180 = .ok (.iconst 5, 1) := by decide +kernel
theorem dX5_goes_181 : decode cX5_goes 181 = .ok (.iload 9, 2) := by decide +kernel
theorem dX5_goes_183 : decode cX5_goes 183 = .ok (.aload_n 0, 1) := by decide +kernel
theorem dX5_goes_184 : decode cX5_goes 184 = .ok (.getfield 50, 3) := by decide +kernel
theorem dX5_goes_187 : decode cX5_goes 187 = .ok (.iconst 5, 1) := by decide +kernel
theorem dX5_goes_188 : decode cX5_goes 188 = .ok (.iaload, 1) := by decide +kernel
theorem dX5_goes_189 : decode cX5_goes 189 = .ok (.if_icmp .le 8, 3) := by decide +kernel
theorem dX5_goes_192 : decode cX5_goes 192 = .ok (.iload 9, 2) := by decide +kernel
theorem dX5_goes_194 : decode cX5_goes 194 = .ok (.goto 9, 3) := by decide +kernel
theorem dX5_goes_197 : decode cX5_goes 197 = .ok (.aload_n 0, 1) := by decide +kernel
theorem dX5_goes_198 : decode cX5_goes 198 = .ok (.getfield 50, 3) := by decide +kernel
theorem dX5_goes_201 : decode cX5_goes 201 = .ok (.iconst 5, 1) := by decide +kernel
theorem dX5_goes_202 : decode cX5_goes 202 = .ok (.iaload, 1) := by decide +kernel
theorem dX5_goes_203 : decode cX5_goes 203 = .ok (.iastore, 1) := by decide +kernel
theorem dX5_goes_204 : decode cX5_goes 204 = .ok (.aload_n 0, 1) := by decide +kernel
theorem dX5_goes_205 : decode cX5_goes 205 = .ok (.getfield 50, 3) := by decide +kernel
theorem dX5_goes_208 : decode cX5_goes 208 = .ok (.iconst 4, 1) := by decide +kernel
theorem dX5_goes_209 : decode cX5_goes 209 = .ok (.iaload, 1) := by decide +kernel
theorem dX5_goes_210 : decode cX5_goes 210 = .ok (.iload_n 2, 1) := by decide +kernel
theorem dX5_goes_211 : decode cX5_goes 211 = .ok (.if_icmp .ne 5, 3) := by decide +kernel
theorem dX5_goes_214 : decode cX5_goes 214 = .ok (.iconst 0, 1) := by decide +kernel
theorem dX5_goes_215 : decode cX5_goes 215 = .ok (.ireturn, 1) := by decide +kernel
theorem dX5_goes_216 : decode cX5_goes 216 = .ok (.goto (-204), 3) := by decide +kernel
theorem dX5_goes_219 : decode cX5_goes 219 = .ok (.iconst 1, 1) := by decide +kernel
theorem dX5_goes_220 : decode cX5_goes 220 = .ok (.ireturn, 1) := by decide +kernel
theorem dX5_run_0 : decode cX5_run 0 = .ok (.aload_n 0, 1) := by decide +kernel
theorem dX5_run_1 : decode cX5_run 1 = .ok (.iconst 0, 1) := by decide +kernel
theorem dX5_run_2 : decode cX5_run 2 = .ok (.putfield 115, 3) := by decide +kernel
theorem dX5_run_5 : decode cX5_run 5 = .ok (.iload_n 1, 1) := by decide +kernel
theorem dX5_run_6 : decode cX5_run 6 = .ok (.iconst 0, 1) := by decide +kernel
theorem dX5_run_7 : decode cX5_run 7 = .ok (.aload_n 0, 1) := by decide +kernel
theorem dX5_run_8 : decode cX5_run 8 = .ok (.getfield 125, 3) := by decide +kernel
theorem dX5_run_11 : decode cX5_run 11 = .ok (.invokestatic 119, 3) := by decide +kernel
theorem dX5_run_14 : decode cX5_run 14 = .ok (.ifCond .eq 24, 3) := by decide +kernel
theorem dX5_run_17 : decode cX5_run 17 = .ok (.iload_n 2, 1) := by decide +kernel
theorem dX5_run_18 : decode cX5_run 18 = .ok (.iconst 1, 1) := by decide +kernel
theorem dX5_run_19 : decode cX5_run 19 = .ok (.bipush 16, 2) := by decide +kernel
theorem dX5_run_21 : decode cX5_run 21 = .ok (.invokestatic 119, 3) := by decide +kernel
theorem dX5_run_24 : decode cX5_run 24 = .ok (.ifCond .eq 14, 3) := by decide +kernel
theorem dX5_run_27 : decode cX5_run 27 = .ok (.iload 4, 2) := by decide +kernel
theorem dX5_run_29 : decode cX5_run 29 = .ok (.iconst 1, 1) := by decide +kernel
theorem dX5_run_30 : decode cX5_run 30 = .ok (.bipush 40, 2) := by decide +kernel
theorem dX5_run_32 : decode cX5_run 32 = .ok (.invokestatic 119, 3) := by decide +kernel
theorem dX5_run_35 : decode cX5_run 35 = .ok (.ifCond .ne 6, 3) := by decide +kernel
theorem dX5_run_38 : decode cX5_run 38 = .ok (.bipush (-2), 2) := by decide +kernel
theorem dX5_run_40 : decode cX5_run 40 = .ok (.ireturn, 1) := by decide +kernel
theorem dX5_run_41 : decode cX5_run 41 = .ok (.aload_n 0, 1) := by decide +kernel
theorem dX5_run_42 : decode cX5_run 42 = .ok (.iload_n 1, 1) := by decide +kernel
theorem dX5_run_43 : decode cX5_run 43 = .ok (.iload_n 2, 1) := by decide +kernel
theorem dX5_run_44 : decode cX5_run 44 = .ok (.iload_n 3, 1) := by decide +kernel
theorem dX5_run_45 : decode cX5_run 45 = .ok (.iload 4, 2) := by decide +kernel
theorem dX5_run_47 : decode cX5_run 47 = .ok (.invokevirtual 163, 3) := by decide +kernel
theorem dX5_run_50 : decode cX5_run 50 = .ok (.ifCond .ne 16, 3) := by decide +kernel
theorem dX5_run_53 : decode cX5_run 53 = .ok (.aload_n 0, 1) := by decide +kernel
theorem dX5_run_54 : decode cX5_run 54 = .ok (.dup, 1) := by decide +kernel
theorem dX5_run_55 : decode cX5_run 55 = .ok (.getfield 167, 3) := by decide +kernel
theorem dX5_run_58 : decode cX5_run 58 = .ok (.iconst 1, 1) := by decide +kernel
theorem dX5_run_59 : decode cX5_run 59 = .ok (.iadd, 1) := by decide +kernel
theorem dX5_run_60 : decode cX5_run 60 = .ok (.putfield 167, 3) := by decide +kernel
theorem dX5_run_63 : decode cX5_run 63 = .ok (.bipush (-5), 2) := by decide +kernel
theorem dX5_run_65 : decode cX5_run 65 = .ok (.ireturn, 1) := by decide +kernel
theorem dX5_run_66 : decode cX5_run 66 = .ok (.aload_n 0, 1) := by decide +kernel
theorem dX5_run_67 : decode cX5_run 67 = .ok (.dup, 1) := by decide +kernel
theorem dX5_run_68 : decode cX5_run 68 = .ok (.getfield 170, 3) := by decide +kernel
theorem dX5_run_71 : decode cX5_run 71 = .ok (.iconst 1, 1) := by decide +kernel
theorem dX5_run_72 : decode cX5_run 72 = .ok (.iadd, 1) := by decide +kernel
theorem dX5_run_73 : decode cX5_run 73 = .ok (.putfield 170, 3) := by decide +kernel
theorem dX5_run_76 : decode cX5_run 76 = .ok (.aload_n 0, 1) := by decide +kernel
theorem dX5_run_77 : decode cX5_run 77 = .ok (.iconst 1, 1) := by decide +kernel
theorem dX5_run_78 : decode cX5_run 78 = .ok (.putfield 111, 3) := by decide +kernel
theorem dX5_run_81 : decode cX5_run 81 = .ok (.iconst 0, 1) := by decide +kernel
theorem dX5_run_82 : decode cX5_run 82 = .ok (.istore 5, 2) := by decide +kernel
theorem dX5_run_84 : decode cX5_run 84 = .ok (.iload 5, 2) := by decide +kernel
theorem dX5_run_86 : decode cX5_run 86 = .ok (.bipush 8, 2) := by decide +kernel
theorem dX5_run_88 : decode cX5_run 88 = .ok (.if_icmp .ge 23, 3) := by decide +kernel
theorem dX5_run_91 : decode cX5_run 91 = .ok (.aload_n 0, 1) := by decide +kernel
theorem dX5_run_92 : decode cX5_run 92 = .ok (.getfield 28, 3) := by decide +kernel
theorem dX5_run_95 : decode cX5_run 95 = .ok (.iload 5, 2) := by decide +kernel
theorem dX5_run_97 : decode cX5_run 97 = .ok (.aload_n 0, 1) := by decide +kernel
theorem dX5_run_98 : decode cX5_run 98 = .ok (.getfield 50, 3) := by decide +kernel
theorem dX5_run_101 : decode cX5_run 101 = .ok (.iload 5, 2) := by decide +kernel
theorem dX5_run_103 : decode cX5_run 103 = .ok (.iaload, 1) := by decide +kernel
theorem dX5_run_104 : decode cX5_run 104 = .ok (.iastore, 1) := by decide +kernel
theorem dX5_run_105 : decode cX5_run 105 = .ok (.iinc 5 1, 3) := by decide +kernel
theorem dX5_run_108 : decode cX5_run 108 = .ok (.goto (-24), 3) := by decide +kernel
theorem dX5_run_111 : decode cX5_run 111 = .ok (.iconst 0, 1) := by decide +kernel
theorem dX5_run_112 : decode cX5_run 112 = .ok (.istore 5, 2) := by decide +kernel
theorem dX5_run_114 : decode cX5_run 114 = .ok (.iload 5, 2) := by decide +kernel
theorem dX5_run_116 : decode cX5_run 116 = .ok (.iload_n 1, 1) := by decide +kernel
theorem dX5_run_117 : decode cX5_run 117 = .ok (.if_icmp .ge 79, 3) := by decide +kernel
theorem dX5_run_120 : decode cX5_run 120 = .ok (.aload_n 0, 1) := by decide +kernel
theorem dX5_run_121 : decode cX5_run 121 = .ok (.getfield 31, 3) := by decide +kernel
theorem dX5_run_124 : decode cX5_run 124 = .ok (.iload 5, 2) := by decide +kernel
theorem dX5_run_126 : decode cX5_run 126 = .ok (.aload_n 0, 1) := by decide +kernel
theorem dX5_run_127 : decode cX5_run 127 = .ok (.getfield 56, 3) := by decide +kernel
theorem dX5_run_130 : decode cX5_run 130 = .ok (.iload 5, 2) := by decide +kernel
theorem dX5_run_132 : decode cX5_run 132 = .ok (.iaload, 1) := by decide +kernel
theorem dX5_run_133 : decode cX5_run 133 = .ok (.iastore, 1) := by decide +kernel
theorem dX5_run_134 : decode cX5_run 134 = .ok (.aload_n 0, 1) := by decide +kernel
theorem dX5_run_135 : decode cX5_run 135 = .ok (.getfield 34, 3) := by decide +kernel
theorem dX5_run_138 : decode cX5_run 138 = .ok (.iload 5, 2) := by decide +kernel
theorem dX5_run_140 : decode cX5_run 140 = .ok (.aload_n 0, 1) := by decide +kernel
theorem dX5_run_141 : decode cX5_run 141 = .ok (.getfield 59, 3) := by decide +kernel
theorem dX5_run_144 : decode cX5_run 144 = .ok (.iload 5, 2) := by decide +kernel
theorem dX5_run_146 : decode cX5_run 146 = .ok (.iaload, 1) := by decide +kernel
theorem dX5_run_147 : decode cX5_run 147 = .ok (.iastore, 1) := by decide +kernel
theorem dX5_run_148 : decode cX5_run 148 = .ok (.aload_n 0, 1) := by decide +kernel
theorem dX5_run_149 : decode cX5_run 149 = .ok (.getfield 37, 3) := by decide +kernel
theorem dX5_run_152 : decode cX5_run 152 = .ok (.iload 5, 2) := by decide +kernel
theorem dX5_run_154 : decode cX5_run 154 = .ok (.aload_n 0, 1) := by decide +kernel
theorem dX5_run_155 : decode cX5_run 155 = .ok (.getfield 62, 3) := by decide +kernel
theorem dX5_run_158 : decode cX5_run 158 = .ok (.iload 5, 2) := by decide +kernel
theorem dX5_run_160 : decode cX5_run 160 = .ok (.iaload, 1) := by decide +kernel
theorem dX5_run_161 : decode cX5_run 161 = .ok (.iastore, 1) := by decide +kernel
theorem dX5_run_162 : decode cX5_run 162 = .ok (.aload_n 0, 1) := by decide +kernel
theorem dX5_run_163 : decode cX5_run 163 = .ok (.getfield 40, 3) := by decide +kernel
theorem dX5_run_166 : decode cX5_run 166 = .ok (.iload 5, 2) := by decide +kernel
theorem dX5_run_168 : decode cX5_run 168 = .ok (.aload_n 0, 1) := by decide +kernel
theorem dX5_run_169 : decode cX5_run 169 = .ok (.getfield 65, 3) := by decide +kernel
theorem dX5_run_172 : decode cX5_run 172 = .ok (.iload 5, 2) := by decide +kernel
theorem dX5_run_174 : decode cX5_run 174 = .ok (.iaload, 1) := by decide +kernel
theorem dX5_run_175 : decode cX5_run 175 = .ok (.iastore, 1) := by decide +kernel
theorem dX5_run_176 : decode cX5_run 176 = .ok (.aload_n 0, 1) := by decide +kernel
theorem dX5_run_177 : decode cX5_run 177 = .ok (.getfield 43, 3) := by decide +kernel
theorem dX5_run_180 : decode cX5_run 180 = .ok (.iload 5, 2) := by decide +kernel
theorem dX5_run_182 : decode cX5_run 182 = .ok (.aload_n 0, 1) := by decide +kernel
theorem dX5_run_183 : decode cX5_run 183 = .ok (.getfield 68, 3) := by decide +kernel
theorem dX5_run_186 : decode cX5_run 186 = .ok (.iload 5, 2) := by decide +kernel
theorem dX5_run_188 : decode cX5_run 188 = .ok (.iaload, 1) := by decide +kernel
theorem dX5_run_189 : decode cX5_run 189 = .ok (.iastore, 1) := by decide +kernel
theorem dX5_run_190 : decode cX5_run 190 = .ok (.iinc 5 1, 3) := by decide +kernel
theorem dX5_run_193 : decode cX5_run 193 = .ok (.goto (-79), 3) := by decide +kernel
theorem dX5_run_196 : decode cX5_run 196 = .ok (.iconst 0, 1) := by decide +kernel
theorem dX5_run_197 : decode cX5_run 197 = .ok (.istore 5, 2) := by decide +kernel
theorem dX5_run_199 : decode cX5_run 199 = .ok (.iload 5, 2) := by decide +kernel
theorem dX5_run_201 : decode cX5_run 201 = .ok (.bipush 8, 2) := by decide +kernel
theorem dX5_run_203 : decode cX5_run 203 = .ok (.iload_n 1, 1) := by decide +kernel
theorem dX5_run_204 : decode cX5_run 204 = .ok (.imul, 1) := by decide +kernel
theorem dX5_run_205 : decode cX5_run 205 = .ok (.bipush 8, 2) := by decide +kernel
theorem dX5_run_207 : decode cX5_run 207 = .ok (.iadd, 1) := by decide +kernel
theorem dX5_run_208 : decode cX5_run 208 = .ok (.if_icmp .ge 23, 3) := by decide +kernel
theorem dX5_run_211 : decode cX5_run 211 = .ok (.aload_n 0, 1) := by decide +kernel
theorem dX5_run_212 : decode cX5_run 212 = .ok (.getfield 46, 3) := by decide +kernel
theorem dX5_run_215 : decode cX5_run 215 = .ok (.iload 5, 2) := by decide +kernel
theorem dX5_run_217 : decode cX5_run 217 = .ok (.aload_n 0, 1) := by decide +kernel
theorem dX5_run_218 : decode cX5_run 218 = .ok (.getfield 90, 3) := by decide +kernel
theorem dX5_run_221 : decode cX5_run 221 = .ok (.iload 5, 2) := by decide +kernel
theorem dX5_run_223 : decode cX5_run 223 = .ok (.laload, 1) := by decide +kernel
theorem dX5_run_224 : decode cX5_run 224 = .ok (.lastore, 1) := by decide +kernel
theorem dX5_run_225 : decode cX5_run 225 = .ok (.iinc 5 1, 3) := by decide +kernel
theorem dX5_run_228 : decode cX5_run 228 = .ok (.goto (-29), 3) := by decide +kernel
theorem dX5_run_231 : decode cX5_run 231 = .ok (.aload_n 0, 1) := by decide +kernel
theorem dX5_run_232 : decode cX5_run 232 = .ok (.getfield 28, 3) := by decide +kernel
theorem dX5_run_235 : decode cX5_run 235 = .ok (.iconst 1, 1) := by decide +kernel
theorem dX5_run_236 : decode cX5_run 236 = .ok (.iaload, 1) := by decide +kernel
theorem dX5_run_237 : decode cX5_run 237 = .ok (.ireturn, 1) := by decide +kernel
theorem dX5_isOfRun_0 : decode cX5_isOfRun 0 = .ok (.aload_n 0, 1) := by decide +kernel
theorem dX5_isOfRun_1 : decode cX5_isOfRun 1 = .ok (.getfield 111, 3) := by decide +kernel
theorem dX5_isOfRun_4 : decode cX5_isOfRun 4 = .ok (.ifCond .eq 17, 3) := by decide +kernel
theorem dX5_isOfRun_7 : decode cX5_isOfRun 7 = .ok (.iload_n 1, 1) := by decide +kernel
theorem dX5_isOfRun_8 : decode cX5_isOfRun 8 = .ok (.aload_n 0, 1) := by decide +kernel
theorem dX5_isOfRun_9 : decode cX5_isOfRun 9 = .ok (.getfield 28, 3) := by decide +kernel
theorem dX5_isOfRun_12 : decode cX5_isOfRun 12 = .ok (.iconst 0, 1) := by decide +kernel
theorem dX5_isOfRun_13 : decode cX5_isOfRun 13 = .ok (.iaload, 1) := by decide +kernel
theorem dX5_isOfRun_14 : decode cX5_isOfRun 14 = .ok (.if_icmp .ge 7, 3) := by decide +kernel
theorem dX5_isOfRun_17 : decode cX5_isOfRun 17 = .ok (.iconst 1, 1) := by decide +kernel
theorem dX5_isOfRun_18 : decode cX5_isOfRun 18 = .ok (.goto 4, 3) := by decide +kernel
theorem dX5_isOfRun_21 : decode cX5_isOfRun 21 = .ok (.iconst 0, 1) := by decide +kernel
theorem dX5_isOfRun_22 : decode cX5_isOfRun 22 = .ok (.ireturn, 1) := by decide +kernel
theorem dX5_amount_0 : decode cX5_amount 0 = .ok (.aload_n 0, 1) := by decide +kernel
theorem dX5_amount_1 : decode cX5_amount 1 = .ok (.iconst 0, 1) := by decide +kernel
theorem dX5_amount_2 : decode cX5_amount 2 = .ok (.putfield 115, 3) := by decide +kernel
theorem dX5_amount_5 : decode cX5_amount 5 = .ok (.aload_n 0, 1) := by decide +kernel
theorem dX5_amount_6 : decode cX5_amount 6 = .ok (.getfield 111, 3) := by decide +kernel
theorem dX5_amount_9 : decode cX5_amount 9 = .ok (.ifCond .eq 32, 3) := by decide +kernel
theorem dX5_amount_12 : decode cX5_amount 12 = .ok (.iload_n 1, 1) := by decide +kernel
theorem dX5_amount_13 : decode cX5_amount 13 = .ok (.iconst 0, 1) := by decide +kernel
theorem dX5_amount_14 : decode cX5_amount 14 = .ok (.bipush 7, 2) := by decide +kernel
theorem dX5_amount_16 : decode cX5_amount 16 = .ok (.invokestatic 119, 3) := by decide +kernel
theorem dX5_amount_19 : decode cX5_amount 19 = .ok (.ifCond .eq 22, 3) := by decide +kernel
theorem dX5_amount_22 : decode cX5_amount 22 = .ok (.aload_n 0, 1) := by decide +kernel
theorem dX5_amount_23 : decode cX5_amount 23 = .ok (.getfield 46, 3) := by decide +kernel
theorem dX5_amount_26 : decode cX5_amount 26 = .ok (.bipush 8, 2) := by decide +kernel
theorem dX5_amount_28 : decode cX5_amount 28 = .ok (.aload_n 0, 1) := by decide +kernel
theorem dX5_amount_29 : decode cX5_amount 29 = .ok (.getfield 28, 3) := by decide +kernel
theorem dX5_amount_32 : decode cX5_amount 32 = .ok (.iconst 0, 1) := by decide +kernel
theorem dX5_amount_33 : decode cX5_amount 33 = .ok (.iaload, 1) := by decide +kernel
theorem dX5_amount_34 : decode cX5_amount 34 = .ok (.imul, 1) := by decide +kernel
theorem dX5_amount_35 : decode cX5_amount 35 = .ok (.iload_n 1, 1) := by decide +kernel
theorem dX5_amount_36 : decode cX5_amount 36 = .ok (.iadd, 1) := by decide +kernel
theorem dX5_amount_37 : decode cX5_amount 37 = .ok (.laload, 1) := by decide +kernel
theorem dX5_amount_38 : decode cX5_amount 38 = .ok (.goto 4, 3) := by decide +kernel
theorem dX5_amount_41 : decode cX5_amount 41 = .ok (.lconst 0, 1) := by decide +kernel
theorem dX5_amount_42 : decode cX5_amount 42 = .ok (.lreturn, 1) := by decide +kernel
theorem dX5_behind_0 : decode cX5_behind 0 = .ok (.aload_n 0, 1) := by decide +kernel
theorem dX5_behind_1 : decode cX5_behind 1 = .ok (.iconst 0, 1) := by decide +kernel
theorem dX5_behind_2 : decode cX5_behind 2 = .ok (.putfield 115, 3) := by decide +kernel
theorem dX5_behind_5 : decode cX5_behind 5 = .ok (.iload_n 1, 1) := by decide +kernel
theorem dX5_behind_6 : decode cX5_behind 6 = .ok (.iconst 0, 1) := by decide +kernel
theorem dX5_behind_7 : decode cX5_behind 7 = .ok (.aload_n 0, 1) := by decide +kernel
theorem dX5_behind_8 : decode cX5_behind 8 = .ok (.getfield 111, 3) := by decide +kernel
theorem dX5_behind_11 : decode cX5_behind 11 = .ok (.ifCond .eq 12, 3) := by decide +kernel
theorem dX5_behind_14 : decode cX5_behind 14 = .ok (.aload_n 0, 1) := by decide +kernel
theorem dX5_behind_15 : decode cX5_behind 15 = .ok (.getfield 28, 3) := by decide +kernel
theorem dX5_behind_18 : decode cX5_behind 18 = .ok (.iconst 0, 1) := by decide +kernel
theorem dX5_behind_19 : decode cX5_behind 19 = .ok (.iaload, 1) := by decide +kernel
theorem dX5_behind_20 : decode cX5_behind 20 = .ok (.goto 5, 3) := by decide +kernel
theorem dX5_behind_23 : decode cX5_behind 23 = .ok (.bipush 40, 2) := by decide +kernel
theorem dX5_behind_25 : decode cX5_behind 25 = .ok (.invokestatic 119, 3) := by decide +kernel
theorem dX5_behind_28 : decode cX5_behind 28 = .ok (.ifCond .eq 13, 3) := by decide +kernel
theorem dX5_behind_31 : decode cX5_behind 31 = .ok (.iload_n 2, 1) := by decide +kernel
theorem dX5_behind_32 : decode cX5_behind 32 = .ok (.iconst 0, 1) := by decide +kernel
theorem dX5_behind_33 : decode cX5_behind 33 = .ok (.bipush 7, 2) := by decide +kernel
theorem dX5_behind_35 : decode cX5_behind 35 = .ok (.invokestatic 119, 3) := by decide +kernel
theorem dX5_behind_38 : decode cX5_behind 38 = .ok (.ifCond .ne 7, 3) := by decide +kernel
theorem dX5_behind_41 : decode cX5_behind 41 = .ok (.ldc2_w 173, 3) := by decide +kernel
theorem dX5_behind_44 : decode cX5_behind 44 = .ok (.lreturn, 1) := by decide +kernel
theorem dX5_behind_45 : decode cX5_behind 45 = .ok (.aload_n 0, 1) := by decide +kernel
theorem dX5_behind_46 : decode cX5_behind 46 = .ok (.getfield 111, 3) := by decide +kernel
theorem dX5_behind_49 : decode cX5_behind 49 = .ok (.ifCond .eq 17, 3) := by decide +kernel
theorem dX5_behind_52 : decode cX5_behind 52 = .ok (.aload_n 0, 1) := by decide +kernel
theorem dX5_behind_53 : decode cX5_behind 53 = .ok (.getfield 46, 3) := by decide +kernel
theorem dX5_behind_56 : decode cX5_behind 56 = .ok (.bipush 8, 2) := by decide +kernel
theorem dX5_behind_58 : decode cX5_behind 58 = .ok (.iload_n 1, 1) := by decide +kernel
theorem dX5_behind_59 : decode cX5_behind 59 = .ok (.imul, 1) := by decide +kernel
theorem dX5_behind_60 : decode cX5_behind 60 = .ok (.iload_n 2, 1) := by decide +kernel
theorem dX5_behind_61 : decode cX5_behind 61 = .ok (.iadd, 1) := by decide +kernel
theorem dX5_behind_62 : decode cX5_behind 62 = .ok (.laload, 1) := by decide +kernel
theorem dX5_behind_63 : decode cX5_behind 63 = .ok (.goto 6, 3) := by decide +kernel
theorem dX5_behind_66 : decode cX5_behind 66 = .ok (.ldc2_w 175, 3) := by decide +kernel
theorem dX5_behind_69 : decode cX5_behind 69 = .ok (.lreturn, 1) := by decide +kernel
theorem dX5_outcome_0 : decode cX5_outcome 0 = .ok (.aload_n 0, 1) := by decide +kernel
theorem dX5_outcome_1 : decode cX5_outcome 1 = .ok (.iconst 0, 1) := by decide +kernel
theorem dX5_outcome_2 : decode cX5_outcome 2 = .ok (.putfield 115, 3) := by decide +kernel
theorem dX5_outcome_5 : decode cX5_outcome 5 = .ok (.iload_n 1, 1) := by decide +kernel
theorem dX5_outcome_6 : decode cX5_outcome 6 = .ok (.iconst 0, 1) := by decide +kernel
theorem dX5_outcome_7 : decode cX5_outcome 7 = .ok (.aload_n 0, 1) := by decide +kernel
theorem dX5_outcome_8 : decode cX5_outcome 8 = .ok (.getfield 125, 3) := by decide +kernel
theorem dX5_outcome_11 : decode cX5_outcome 11 = .ok (.iconst 1, 1) := by decide +kernel
theorem dX5_outcome_12 : decode cX5_outcome 12 = .ok (.isub, 1) := by decide +kernel
theorem dX5_outcome_13 : decode cX5_outcome 13 = .ok (.invokestatic 119, 3) := by decide +kernel
theorem dX5_outcome_16 : decode cX5_outcome 16 = .ok (.ifCond .ne 8, 3) := by decide +kernel
theorem dX5_outcome_19 : decode cX5_outcome 19 = .ok (.bipush (-2), 2) := by decide +kernel
theorem dX5_outcome_21 : decode cX5_outcome 21 = .ok (.goto 21, 3) := by decide +kernel
theorem dX5_outcome_24 : decode cX5_outcome 24 = .ok (.aload_n 0, 1) := by decide +kernel
theorem dX5_outcome_25 : decode cX5_outcome 25 = .ok (.iload_n 1, 1) := by decide +kernel
theorem dX5_outcome_26 : decode cX5_outcome 26 = .ok (.invokevirtual 177, 3) := by decide +kernel
theorem dX5_outcome_29 : decode cX5_outcome 29 = .ok (.ifCond .eq 12, 3) := by decide +kernel
theorem dX5_outcome_32 : decode cX5_outcome 32 = .ok (.aload_n 0, 1) := by decide +kernel
theorem dX5_outcome_33 : decode cX5_outcome 33 = .ok (.getfield 43, 3) := by decide +kernel
theorem dX5_outcome_36 : decode cX5_outcome 36 = .ok (.iload_n 1, 1) := by decide +kernel
theorem dX5_outcome_37 : decode cX5_outcome 37 = .ok (.iaload, 1) := by decide +kernel
theorem dX5_outcome_38 : decode cX5_outcome 38 = .ok (.goto 4, 3) := by decide +kernel
theorem dX5_outcome_41 : decode cX5_outcome 41 = .ok (.iconst 0, 1) := by decide +kernel
theorem dX5_outcome_42 : decode cX5_outcome 42 = .ok (.ireturn, 1) := by decide +kernel
theorem dX5_of_0 : decode cX5_of 0 = .ok (.aload_n 0, 1) := by decide +kernel
theorem dX5_of_1 : decode cX5_of 1 = .ok (.iconst 0, 1) := by decide +kernel
theorem dX5_of_2 : decode cX5_of 2 = .ok (.putfield 115, 3) := by decide +kernel
theorem dX5_of_5 : decode cX5_of 5 = .ok (.iload_n 1, 1) := by decide +kernel
theorem dX5_of_6 : decode cX5_of 6 = .ok (.iconst 0, 1) := by decide +kernel
theorem dX5_of_7 : decode cX5_of 7 = .ok (.aload_n 0, 1) := by decide +kernel
theorem dX5_of_8 : decode cX5_of 8 = .ok (.getfield 125, 3) := by decide +kernel
theorem dX5_of_11 : decode cX5_of 11 = .ok (.iconst 1, 1) := by decide +kernel
theorem dX5_of_12 : decode cX5_of 12 = .ok (.isub, 1) := by decide +kernel
theorem dX5_of_13 : decode cX5_of 13 = .ok (.invokestatic 119, 3) := by decide +kernel
theorem dX5_of_16 : decode cX5_of 16 = .ok (.ifCond .eq 12, 3) := by decide +kernel
theorem dX5_of_19 : decode cX5_of 19 = .ok (.iload_n 2, 1) := by decide +kernel
theorem dX5_of_20 : decode cX5_of 20 = .ok (.iconst 0, 1) := by decide +kernel
theorem dX5_of_21 : decode cX5_of 21 = .ok (.iconst 3, 1) := by decide +kernel
theorem dX5_of_22 : decode cX5_of 22 = .ok (.invokestatic 119, 3) := by decide +kernel
theorem dX5_of_25 : decode cX5_of 25 = .ok (.ifCond .ne 6, 3) := by decide +kernel
theorem dX5_of_28 : decode cX5_of 28 = .ok (.bipush (-2), 2) := by decide +kernel
theorem dX5_of_30 : decode cX5_of 30 = .ok (.ireturn, 1) := by decide +kernel
theorem dX5_of_31 : decode cX5_of 31 = .ok (.aload_n 0, 1) := by decide +kernel
theorem dX5_of_32 : decode cX5_of 32 = .ok (.iload_n 1, 1) := by decide +kernel
theorem dX5_of_33 : decode cX5_of 33 = .ok (.invokevirtual 177, 3) := by decide +kernel
theorem dX5_of_36 : decode cX5_of 36 = .ok (.ifCond .ne 5, 3) := by decide +kernel
theorem dX5_of_39 : decode cX5_of 39 = .ok (.iconst (-1), 1) := by decide +kernel
theorem dX5_of_40 : decode cX5_of 40 = .ok (.ireturn, 1) := by decide +kernel
theorem dX5_of_41 : decode cX5_of 41 = .ok (.iload_n 2, 1) := by decide +kernel
theorem dX5_of_42 : decode cX5_of 42 = .ok (.ifCond .ne 12, 3) := by decide +kernel
theorem dX5_of_45 : decode cX5_of 45 = .ok (.aload_n 0, 1) := by decide +kernel
theorem dX5_of_46 : decode cX5_of 46 = .ok (.getfield 31, 3) := by decide +kernel
theorem dX5_of_49 : decode cX5_of 49 = .ok (.iload_n 1, 1) := by decide +kernel
theorem dX5_of_50 : decode cX5_of 50 = .ok (.iaload, 1) := by decide +kernel
theorem dX5_of_51 : decode cX5_of 51 = .ok (.goto 37, 3) := by decide +kernel
theorem dX5_of_54 : decode cX5_of 54 = .ok (.iload_n 2, 1) := by decide +kernel
theorem dX5_of_55 : decode cX5_of 55 = .ok (.iconst 1, 1) := by decide +kernel
theorem dX5_of_56 : decode cX5_of 56 = .ok (.if_icmp .ne 12, 3) := by decide +kernel
theorem dX5_of_59 : decode cX5_of 59 = .ok (.aload_n 0, 1) := by decide +kernel
theorem dX5_of_60 : decode cX5_of 60 = .ok (.getfield 34, 3) := by decide +kernel
theorem dX5_of_63 : decode cX5_of 63 = .ok (.iload_n 1, 1) := by decide +kernel
theorem dX5_of_64 : decode cX5_of 64 = .ok (.iaload, 1) := by decide +kernel
theorem dX5_of_65 : decode cX5_of 65 = .ok (.goto 23, 3) := by decide +kernel
theorem dX5_of_68 : decode cX5_of 68 = .ok (.iload_n 2, 1) := by decide +kernel
theorem dX5_of_69 : decode cX5_of 69 = .ok (.iconst 2, 1) := by decide +kernel
theorem dX5_of_70 : decode cX5_of 70 = .ok (.if_icmp .ne 12, 3) := by decide +kernel
theorem dX5_of_73 : decode cX5_of 73 = .ok (.aload_n 0, 1) := by decide +kernel
theorem dX5_of_74 : decode cX5_of 74 = .ok (.getfield 37, 3) := by decide +kernel
theorem dX5_of_77 : decode cX5_of 77 = .ok (.iload_n 1, 1) := by decide +kernel
theorem dX5_of_78 : decode cX5_of 78 = .ok (.iaload, 1) := by decide +kernel
theorem dX5_of_79 : decode cX5_of 79 = .ok (.goto 9, 3) := by decide +kernel
theorem dX5_of_82 : decode cX5_of 82 = .ok (.aload_n 0, 1) := by decide +kernel
theorem dX5_of_83 : decode cX5_of 83 = .ok (.getfield 40, 3) := by decide +kernel
theorem dX5_of_86 : decode cX5_of 86 = .ok (.iload_n 1, 1) := by decide +kernel
theorem dX5_of_87 : decode cX5_of 87 = .ok (.iaload, 1) := by decide +kernel
theorem dX5_of_88 : decode cX5_of 88 = .ok (.ireturn, 1) := by decide +kernel
theorem dX5_told_0 : decode cX5_told 0 = .ok (.aload_n 0, 1) := by decide +kernel
theorem dX5_told_1 : decode cX5_told 1 = .ok (.iconst 0, 1) := by decide +kernel
theorem dX5_told_2 : decode cX5_told 2 = .ok (.putfield 115, 3) := by decide +kernel
theorem dX5_told_5 : decode cX5_told 5 = .ok (.iload_n 1, 1) := by decide +kernel
theorem dX5_told_6 : decode cX5_told 6 = .ok (.iconst 0, 1) := by decide +kernel
theorem dX5_told_7 : decode cX5_told 7 = .ok (.bipush 7, 2) := by decide +kernel
theorem dX5_told_9 : decode cX5_told 9 = .ok (.invokestatic 119, 3) := by decide +kernel
theorem dX5_told_12 : decode cX5_told 12 = .ok (.ifCond .ne 8, 3) := by decide +kernel
theorem dX5_told_15 : decode cX5_told 15 = .ok (.bipush (-2), 2) := by decide +kernel
theorem dX5_told_17 : decode cX5_told 17 = .ok (.goto 21, 3) := by decide +kernel
theorem dX5_told_20 : decode cX5_told 20 = .ok (.aload_n 0, 1) := by decide +kernel
theorem dX5_told_21 : decode cX5_told 21 = .ok (.getfield 111, 3) := by decide +kernel
theorem dX5_told_24 : decode cX5_told 24 = .ok (.ifCond .ne 8, 3) := by decide +kernel
theorem dX5_told_27 : decode cX5_told 27 = .ok (.bipush (-3), 2) := by decide +kernel
theorem dX5_told_29 : decode cX5_told 29 = .ok (.goto 9, 3) := by decide +kernel
theorem dX5_told_32 : decode cX5_told 32 = .ok (.aload_n 0, 1) := by decide +kernel
theorem dX5_told_33 : decode cX5_told 33 = .ok (.getfield 28, 3) := by decide +kernel
theorem dX5_told_36 : decode cX5_told 36 = .ok (.iload_n 1, 1) := by decide +kernel
theorem dX5_told_37 : decode cX5_told 37 = .ok (.iaload, 1) := by decide +kernel
theorem dX5_told_38 : decode cX5_told 38 = .ok (.ireturn, 1) := by decide +kernel
theorem dX5_same_0 : decode cX5_same 0 = .ok (.aload_n 0, 1) := by decide +kernel
theorem dX5_same_1 : decode cX5_same 1 = .ok (.iconst 0, 1) := by decide +kernel
theorem dX5_same_2 : decode cX5_same 2 = .ok (.putfield 115, 3) := by decide +kernel
theorem dX5_same_5 : decode cX5_same 5 = .ok (.iload_n 1, 1) := by decide +kernel
theorem dX5_same_6 : decode cX5_same 6 = .ok (.iconst 1, 1) := by decide +kernel
theorem dX5_same_7 : decode cX5_same 7 = .ok (.bipush 16, 2) := by decide +kernel
theorem dX5_same_9 : decode cX5_same 9 = .ok (.invokestatic 119, 3) := by decide +kernel
theorem dX5_same_12 : decode cX5_same 12 = .ok (.ifCond .eq 28, 3) := by decide +kernel
theorem dX5_same_15 : decode cX5_same 15 = .ok (.iload_n 3, 1) := by decide +kernel
theorem dX5_same_16 : decode cX5_same 16 = .ok (.iconst 1, 1) := by decide +kernel
theorem dX5_same_17 : decode cX5_same 17 = .ok (.bipush 16, 2) := by decide +kernel
theorem dX5_same_19 : decode cX5_same 19 = .ok (.invokestatic 119, 3) := by decide +kernel
theorem dX5_same_22 : decode cX5_same 22 = .ok (.ifCond .eq 18, 3) := by decide +kernel
theorem dX5_same_25 : decode cX5_same 25 = .ok (.aload_n 0, 1) := by decide +kernel
theorem dX5_same_26 : decode cX5_same 26 = .ok (.aload_n 0, 1) := by decide +kernel
theorem dX5_same_27 : decode cX5_same 27 = .ok (.getfield 125, 3) := by decide +kernel
theorem dX5_same_30 : decode cX5_same 30 = .ok (.iload_n 1, 1) := by decide +kernel
theorem dX5_same_31 : decode cX5_same 31 = .ok (.iload_n 2, 1) := by decide +kernel
theorem dX5_same_32 : decode cX5_same 32 = .ok (.bipush 40, 2) := by decide +kernel
theorem dX5_same_34 : decode cX5_same 34 = .ok (.invokevirtual 163, 3) := by decide +kernel
theorem dX5_same_37 : decode cX5_same 37 = .ok (.ifCond .ne 5, 3) := by decide +kernel
theorem dX5_same_40 : decode cX5_same 40 = .ok (.iconst 0, 1) := by decide +kernel
theorem dX5_same_41 : decode cX5_same 41 = .ok (.ireturn, 1) := by decide +kernel
theorem dX5_same_42 : decode cX5_same 42 = .ok (.iconst 0, 1) := by decide +kernel
theorem dX5_same_43 : decode cX5_same 43 = .ok (.istore 5, 2) := by decide +kernel
theorem dX5_same_45 : decode cX5_same 45 = .ok (.iload 5, 2) := by decide +kernel
theorem dX5_same_47 : decode cX5_same 47 = .ok (.bipush 8, 2) := by decide +kernel
theorem dX5_same_49 : decode cX5_same 49 = .ok (.if_icmp .ge 31, 3) := by decide +kernel
theorem dX5_same_52 : decode cX5_same 52 = .ok (.aload_n 0, 1) := by decide +kernel
theorem dX5_same_53 : decode cX5_same 53 = .ok (.getfield 105, 3) := by decide +kernel
theorem dX5_same_56 : decode cX5_same 56 = .ok (.iload 5, 2) := by decide +kernel
theorem dX5_same_58 : decode cX5_same 58 = .ok (.aload_n 0, 1) := by decide +kernel
theorem dX5_same_59 : decode cX5_same 59 = .ok (.getfield 90, 3) := by decide +kernel
theorem dX5_same_62 : decode cX5_same 62 = .ok (.bipush 8, 2) := by decide +kernel
theorem dX5_same_64 : decode cX5_same 64 = .ok (.aload_n 0, 1) := by decide +kernel
theorem dX5_same_65 : decode cX5_same 65 = .ok (.getfield 125, 3) := by decide +kernel
theorem dX5_same_68 : decode cX5_same 68 = .ok (.imul, 1) := by decide +kernel
theorem dX5_same_69 : decode cX5_same 69 = .ok (.iload 5, 2) := by decide +kernel
theorem dX5_same_71 : decode cX5_same 71 = .ok (.iadd, 1) := by decide +kernel
theorem dX5_same_72 : decode cX5_same 72 = .ok (.laload, 1) := by decide +kernel
theorem dX5_same_73 : decode cX5_same 73 = .ok (.lastore, 1) := by decide +kernel
theorem dX5_same_74 : decode cX5_same 74 = .ok (.iinc 5 1, 3) := by decide +kernel
theorem dX5_same_77 : decode cX5_same 77 = .ok (.goto (-32), 3) := by decide +kernel
theorem dX5_same_80 : decode cX5_same 80 = .ok (.iconst 0, 1) := by decide +kernel
theorem dX5_same_81 : decode cX5_same 81 = .ok (.istore 5, 2) := by decide +kernel
theorem dX5_same_83 : decode cX5_same 83 = .ok (.iload 5, 2) := by decide +kernel
theorem dX5_same_85 : decode cX5_same 85 = .ok (.aload_n 0, 1) := by decide +kernel
theorem dX5_same_86 : decode cX5_same 86 = .ok (.getfield 125, 3) := by decide +kernel
theorem dX5_same_89 : decode cX5_same 89 = .ok (.if_icmp .ge 23, 3) := by decide +kernel
theorem dX5_same_92 : decode cX5_same 92 = .ok (.aload_n 0, 1) := by decide +kernel
theorem dX5_same_93 : decode cX5_same 93 = .ok (.getfield 108, 3) := by decide +kernel
theorem dX5_same_96 : decode cX5_same 96 = .ok (.iload 5, 2) := by decide +kernel
theorem dX5_same_98 : decode cX5_same 98 = .ok (.aload_n 0, 1) := by decide +kernel
theorem dX5_same_99 : decode cX5_same 99 = .ok (.getfield 68, 3) := by decide +kernel
theorem dX5_same_102 : decode cX5_same 102 = .ok (.iload 5, 2) := by decide +kernel
theorem dX5_same_104 : decode cX5_same 104 = .ok (.iaload, 1) := by decide +kernel
theorem dX5_same_105 : decode cX5_same 105 = .ok (.iastore, 1) := by decide +kernel
theorem dX5_same_106 : decode cX5_same 106 = .ok (.iinc 5 1, 3) := by decide +kernel
theorem dX5_same_109 : decode cX5_same 109 = .ok (.goto (-26), 3) := by decide +kernel
theorem dX5_same_112 : decode cX5_same 112 = .ok (.aload_n 0, 1) := by decide +kernel
theorem dX5_same_113 : decode cX5_same 113 = .ok (.aload_n 0, 1) := by decide +kernel
theorem dX5_same_114 : decode cX5_same 114 = .ok (.getfield 125, 3) := by decide +kernel
theorem dX5_same_117 : decode cX5_same 117 = .ok (.iload_n 3, 1) := by decide +kernel
theorem dX5_same_118 : decode cX5_same 118 = .ok (.iload 4, 2) := by decide +kernel
theorem dX5_same_120 : decode cX5_same 120 = .ok (.bipush 40, 2) := by decide +kernel
theorem dX5_same_122 : decode cX5_same 122 = .ok (.invokevirtual 163, 3) := by decide +kernel
theorem dX5_same_125 : decode cX5_same 125 = .ok (.ifCond .ne 5, 3) := by decide +kernel
theorem dX5_same_128 : decode cX5_same 128 = .ok (.iconst 0, 1) := by decide +kernel
theorem dX5_same_129 : decode cX5_same 129 = .ok (.ireturn, 1) := by decide +kernel
theorem dX5_same_130 : decode cX5_same 130 = .ok (.iconst 1, 1) := by decide +kernel
theorem dX5_same_131 : decode cX5_same 131 = .ok (.istore 5, 2) := by decide +kernel
theorem dX5_same_133 : decode cX5_same 133 = .ok (.iconst 0, 1) := by decide +kernel
theorem dX5_same_134 : decode cX5_same 134 = .ok (.istore 6, 2) := by decide +kernel
theorem dX5_same_136 : decode cX5_same 136 = .ok (.iload 6, 2) := by decide +kernel
theorem dX5_same_138 : decode cX5_same 138 = .ok (.bipush 8, 2) := by decide +kernel
theorem dX5_same_140 : decode cX5_same 140 = .ok (.if_icmp .ge 47, 3) := by decide +kernel
theorem dX5_same_143 : decode cX5_same 143 = .ok (.iload 5, 2) := by decide +kernel
theorem dX5_same_145 : decode cX5_same 145 = .ok (.ifCond .eq 33, 3) := by decide +kernel
theorem dX5_same_148 : decode cX5_same 148 = .ok (.aload_n 0, 1) := by decide +kernel
theorem dX5_same_149 : decode cX5_same 149 = .ok (.getfield 105, 3) := by decide +kernel
theorem dX5_same_152 : decode cX5_same 152 = .ok (.iload 6, 2) := by decide +kernel
theorem dX5_same_154 : decode cX5_same 154 = .ok (.laload, 1) := by decide +kernel
theorem dX5_same_155 : decode cX5_same 155 = .ok (.aload_n 0, 1) := by decide +kernel
theorem dX5_same_156 : decode cX5_same 156 = .ok (.getfield 90, 3) := by decide +kernel
theorem dX5_same_159 : decode cX5_same 159 = .ok (.bipush 8, 2) := by decide +kernel
theorem dX5_same_161 : decode cX5_same 161 = .ok (.aload_n 0, 1) := by decide +kernel
theorem dX5_same_162 : decode cX5_same 162 = .ok (.getfield 125, 3) := by decide +kernel
theorem dX5_same_165 : decode cX5_same 165 = .ok (.imul, 1) := by decide +kernel
theorem dX5_same_166 : decode cX5_same 166 = .ok (.iload 6, 2) := by decide +kernel
theorem dX5_same_168 : decode cX5_same 168 = .ok (.iadd, 1) := by decide +kernel
theorem dX5_same_169 : decode cX5_same 169 = .ok (.laload, 1) := by decide +kernel
theorem dX5_same_170 : decode cX5_same 170 = .ok (.lcmp, 1) := by decide +kernel
theorem dX5_same_171 : decode cX5_same 171 = .ok (.ifCond .ne 7, 3) := by decide +kernel
theorem dX5_same_174 : decode cX5_same 174 = .ok (.iconst 1, 1) := by decide +kernel
theorem dX5_same_175 : decode cX5_same 175 = .ok (.goto 4, 3) := by decide +kernel
theorem dX5_same_178 : decode cX5_same 178 = .ok (.iconst 0, 1) := by decide +kernel
theorem dX5_same_179 : decode cX5_same 179 = .ok (.istore 5, 2) := by decide +kernel
theorem dX5_same_181 : decode cX5_same 181 = .ok (.iinc 6 1, 3) := by decide +kernel
theorem dX5_same_184 : decode cX5_same 184 = .ok (.goto (-48), 3) := by decide +kernel
theorem dX5_same_187 : decode cX5_same 187 = .ok (.iconst 0, 1) := by decide +kernel
theorem dX5_same_188 : decode cX5_same 188 = .ok (.istore 6, 2) := by decide +kernel
theorem dX5_same_190 : decode cX5_same 190 = .ok (.iload 6, 2) := by decide +kernel
theorem dX5_same_192 : decode cX5_same 192 = .ok (.aload_n 0, 1) := by decide +kernel
theorem dX5_same_193 : decode cX5_same 193 = .ok (.getfield 125, 3) := by decide +kernel
theorem dX5_same_196 : decode cX5_same 196 = .ok (.if_icmp .ge 38, 3) := by decide +kernel
theorem dX5_same_199 : decode cX5_same 199 = .ok (.iload 5, 2) := by decide +kernel
theorem dX5_same_201 : decode cX5_same 201 = .ok (.ifCond .eq 24, 3) := by decide +kernel
theorem dX5_same_204 : decode cX5_same 204 = .ok (.aload_n 0, 1) := by decide +kernel
theorem dX5_same_205 : decode cX5_same 205 = .ok (.getfield 108, 3) := by decide +kernel
theorem dX5_same_208 : decode cX5_same 208 = .ok (.iload 6, 2) := by decide +kernel
theorem dX5_same_210 : decode cX5_same 210 = .ok (.iaload, 1) := by decide +kernel
theorem dX5_same_211 : decode cX5_same 211 = .ok (.aload_n 0, 1) := by decide +kernel
theorem dX5_same_212 : decode cX5_same 212 = .ok (.getfield 68, 3) := by decide +kernel
theorem dX5_same_215 : decode cX5_same 215 = .ok (.iload 6, 2) := by decide +kernel
theorem dX5_same_217 : decode cX5_same 217 = .ok (.iaload, 1) := by decide +kernel
theorem dX5_same_218 : decode cX5_same 218 = .ok (.if_icmp .ne 7, 3) := by decide +kernel
theorem dX5_same_221 : decode cX5_same 221 = .ok (.iconst 1, 1) := by decide +kernel
theorem dX5_same_222 : decode cX5_same 222 = .ok (.goto 4, 3) := by decide +kernel
theorem dX5_same_225 : decode cX5_same 225 = .ok (.iconst 0, 1) := by decide +kernel
theorem dX5_same_226 : decode cX5_same 226 = .ok (.istore 5, 2) := by decide +kernel
theorem dX5_same_228 : decode cX5_same 228 = .ok (.iinc 6 1, 3) := by decide +kernel
theorem dX5_same_231 : decode cX5_same 231 = .ok (.goto (-41), 3) := by decide +kernel
theorem dX5_same_234 : decode cX5_same 234 = .ok (.iload 5, 2) := by decide +kernel
theorem dX5_same_236 : decode cX5_same 236 = .ok (.ireturn, 1) := by decide +kernel
theorem dX5_count_0 : decode cX5_count 0 = .ok (.aload_n 0, 1) := by decide +kernel
theorem dX5_count_1 : decode cX5_count 1 = .ok (.iconst 0, 1) := by decide +kernel
theorem dX5_count_2 : decode cX5_count 2 = .ok (.putfield 115, 3) := by decide +kernel
theorem dX5_count_5 : decode cX5_count 5 = .ok (.iload_n 1, 1) := by decide +kernel
theorem dX5_count_6 : decode cX5_count 6 = .ok (.ifCond .ne 10, 3) := by decide +kernel
theorem dX5_count_9 : decode cX5_count 9 = .ok (.aload_n 0, 1) := by decide +kernel
theorem dX5_count_10 : decode cX5_count 10 = .ok (.getfield 125, 3) := by decide +kernel
theorem dX5_count_13 : decode cX5_count 13 = .ok (.goto 29, 3) := by decide +kernel
theorem dX5_count_16 : decode cX5_count 16 = .ok (.iload_n 1, 1) := by decide +kernel
theorem dX5_count_17 : decode cX5_count 17 = .ok (.iconst 1, 1) := by decide +kernel
theorem dX5_count_18 : decode cX5_count 18 = .ok (.if_icmp .ne 10, 3) := by decide +kernel
theorem dX5_count_21 : decode cX5_count 21 = .ok (.aload_n 0, 1) := by decide +kernel
theorem dX5_count_22 : decode cX5_count 22 = .ok (.getfield 170, 3) := by decide +kernel
theorem dX5_count_25 : decode cX5_count 25 = .ok (.goto 17, 3) := by decide +kernel
theorem dX5_count_28 : decode cX5_count 28 = .ok (.iload_n 1, 1) := by decide +kernel
theorem dX5_count_29 : decode cX5_count 29 = .ok (.iconst 2, 1) := by decide +kernel
theorem dX5_count_30 : decode cX5_count 30 = .ok (.if_icmp .ne 10, 3) := by decide +kernel
theorem dX5_count_33 : decode cX5_count 33 = .ok (.aload_n 0, 1) := by decide +kernel
theorem dX5_count_34 : decode cX5_count 34 = .ok (.getfield 167, 3) := by decide +kernel
theorem dX5_count_37 : decode cX5_count 37 = .ok (.goto 5, 3) := by decide +kernel
theorem dX5_count_40 : decode cX5_count 40 = .ok (.bipush (-2), 2) := by decide +kernel
theorem dX5_count_42 : decode cX5_count 42 = .ok (.ireturn, 1) := by decide +kernel
