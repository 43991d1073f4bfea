theorem dX5_init_0 : decode cX5_init 0 = .ok (.aload_n 0, 1) := by decide +kernel
theorem dX5_init_1 : decode cX5_init 1 = .ok (.invokespecial 1, 3) := by decide +kernel
theorem dX5_init_4 : decode cX5_init 4 = .ok (.aload_n 0, 1) := by decide +kernel
theorem dX5_init_5 : decode cX5_init 5 = .ok (.bipush 40, 2) := by decide +kernel
theorem dX5_init_7 : decode cX5_init 7 = .ok (.newarray .int, 2) := by decide +kernel
theorem dX5_init_9 : decode cX5_init 9 = .ok (.putfield 7, 3) := by decide +kernel
theorem dX5_init_12 : decode cX5_init 12 = .ok (.aload_n 0, 1) := by decide +kernel
theorem dX5_init_13 : decode cX5_init 13 = .ok (.bipush 40, 2) := by decide +kernel
theorem dX5_init_15 : decode cX5_init 15 = .ok (.newarray .int, 2) := by decide +kernel
theorem dX5_init_17 : decode cX5_init 17 = .ok (.putfield 13, 3) := by decide +kernel
theorem dX5_init_20 : decode cX5_init 20 = .ok (.aload_n 0, 1) := by decide +kernel
theorem dX5_init_21 : decode cX5_init 21 = .ok (.bipush 40, 2) := by decide +kernel
theorem dX5_init_23 : decode cX5_init 23 = .ok (.newarray .int, 2) := by decide +kernel
theorem dX5_init_25 : decode cX5_init 25 = .ok (.putfield 16, 3) := by decide +kernel
theorem dX5_init_28 : decode cX5_init 28 = .ok (.aload_n 0, 1) := by decide +kernel
theorem dX5_init_29 : decode cX5_init 29 = .ok (.bipush 40, 2) := by decide +kernel
theorem dX5_init_31 : decode cX5_init 31 = .ok (.newarray .int, 2) := by decide +kernel
theorem dX5_init_33 : decode cX5_init 33 = .ok (.putfield 19, 3) := by decide +kernel
theorem dX5_init_36 : decode cX5_init 36 = .ok (.aload_n 0, 1) := by decide +kernel
theorem dX5_init_37 : decode cX5_init 37 = .ok (.bipush 40, 2) := by decide +kernel
theorem dX5_init_39 : decode cX5_init 39 = .ok (.newarray .int, 2) := by decide +kernel
theorem dX5_init_41 : decode cX5_init 41 = .ok (.putfield 22, 3) := by decide +kernel
theorem dX5_init_44 : decode cX5_init 44 = .ok (.aload_n 0, 1) := by decide +kernel
theorem dX5_init_45 : decode cX5_init 45 = .ok (.bipush 16, 2) := by decide +kernel
theorem dX5_init_47 : decode cX5_init 47 = .ok (.newarray .int, 2) := by decide +kernel
theorem dX5_init_49 : decode cX5_init 49 = .ok (.putfield 25, 3) := by decide +kernel
theorem dX5_init_52 : decode cX5_init 52 = .ok (.aload_n 0, 1) := by decide +kernel
theorem dX5_init_53 : decode cX5_init 53 = .ok (.bipush 8, 2) := by decide +kernel
theorem dX5_init_55 : decode cX5_init 55 = .ok (.newarray .int, 2) := by decide +kernel
theorem dX5_init_57 : decode cX5_init 57 = .ok (.putfield 28, 3) := by decide +kernel
theorem dX5_init_60 : decode cX5_init 60 = .ok (.aload_n 0, 1) := by decide +kernel
theorem dX5_init_61 : decode cX5_init 61 = .ok (.bipush 40, 2) := by decide +kernel
theorem dX5_init_63 : decode cX5_init 63 = .ok (.newarray .int, 2) := by decide +kernel
theorem dX5_init_65 : decode cX5_init 65 = .ok (.putfield 31, 3) := by decide +kernel
theorem dX5_init_68 : decode cX5_init 68 = .ok (.aload_n 0, 1) := by decide +kernel
theorem dX5_init_69 : decode cX5_init 69 = .ok (.bipush 40, 2) := by decide +kernel
theorem dX5_init_71 : decode cX5_init 71 = .ok (.newarray .int, 2) := by decide +kernel
theorem dX5_init_73 : decode cX5_init 73 = .ok (.putfield 34, 3) := by decide +kernel
theorem dX5_init_76 : decode cX5_init 76 = .ok (.aload_n 0, 1) := by decide +kernel
theorem dX5_init_77 : decode cX5_init 77 = .ok (.bipush 40, 2) := by decide +kernel
theorem dX5_init_79 : decode cX5_init 79 = .ok (.newarray .int, 2) := by decide +kernel
theorem dX5_init_81 : decode cX5_init 81 = .ok (.putfield 37, 3) := by decide +kernel
theorem dX5_init_84 : decode cX5_init 84 = .ok (.aload_n 0, 1) := by decide +kernel
theorem dX5_init_85 : decode cX5_init 85 = .ok (.bipush 40, 2) := by decide +kernel
theorem dX5_init_87 : decode cX5_init 87 = .ok (.newarray .int, 2) := by decide +kernel
theorem dX5_init_89 : decode cX5_init 89 = .ok (.putfield 40, 3) := by decide +kernel
theorem dX5_init_92 : decode cX5_init 92 = .ok (.aload_n 0, 1) := by decide +kernel
theorem dX5_init_93 : decode cX5_init 93 = .ok (.bipush 40, 2) := by decide +kernel
theorem dX5_init_95 : decode cX5_init 95 = .ok (.newarray .int, 2) := by decide +kernel
theorem dX5_init_97 : decode cX5_init 97 = .ok (.putfield 43, 3) := by decide +kernel
theorem dX5_init_100 : decode cX5_init 100 = .ok (.aload_n 0, 1) := by decide +kernel
theorem dX5_init_101 : decode cX5_init 101 = .ok (.sipush 328, 3) := by decide +kernel
theorem dX5_init_104 : decode cX5_init 104 = .ok (.newarray .long, 2) := by decide +kernel
theorem dX5_init_106 : decode cX5_init 106 = .ok (.putfield 46, 3) := by decide +kernel
theorem dX5_init_109 : decode cX5_init 109 = .ok (.aload_n 0, 1) := by decide +kernel
theorem dX5_init_110 : decode cX5_init 110 = .ok (.bipush 8, 2) := by decide +kernel
theorem dX5_init_112 : decode cX5_init 112 = .ok (.newarray .int, 2) := by decide +kernel
theorem dX5_init_114 : decode cX5_init 114 = .ok (.putfield 50, 3) := by decide +kernel
theorem dX5_init_117 : decode cX5_init 117 = .ok (.aload_n 0, 1) := by decide +kernel
theorem dX5_init_118 : decode cX5_init 118 = .ok (.bipush 40, 2) := by decide +kernel
theorem dX5_init_120 : decode cX5_init 120 = .ok (.newarray .int, 2) := by decide +kernel
theorem dX5_init_122 : decode cX5_init 122 = .ok (.putfield 53, 3) := by decide +kernel
theorem dX5_init_125 : decode cX5_init 125 = .ok (.aload_n 0, 1) := by decide +kernel
theorem dX5_init_126 : decode cX5_init 126 = .ok (.bipush 40, 2) := by decide +kernel
theorem dX5_init_128 : decode cX5_init 128 = .ok (.newarray .int, 2) := by decide +kernel
theorem dX5_init_130 : decode cX5_init 130 = .ok (.putfield 56, 3) := by decide +kernel
theorem dX5_init_133 : decode cX5_init 133 = .ok (.aload_n 0, 1) := by decide +kernel
theorem dX5_init_134 : decode cX5_init 134 = .ok (.bipush 40, 2) := by decide +kernel
theorem dX5_init_136 : decode cX5_init 136 = .ok (.newarray .int, 2) := by decide +kernel
theorem dX5_init_138 : decode cX5_init 138 = .ok (.putfield 59, 3) := by decide +kernel
theorem dX5_init_141 : decode cX5_init 141 = .ok (.aload_n 0, 1) := by decide +kernel
theorem dX5_init_142 : decode cX5_init 142 = .ok (.bipush 40, 2) := by decide +kernel
theorem dX5_init_144 : decode cX5_init 144 = .ok (.newarray .int, 2) := by decide +kernel
theorem dX5_init_146 : decode cX5_init 146 = .ok (.putfield 62, 3) := by decide +kernel
theorem dX5_init_149 : decode cX5_init 149 = .ok (.aload_n 0, 1) := by decide +kernel
theorem dX5_init_150 : decode cX5_init 150 = .ok (.bipush 40, 2) := by decide +kernel
theorem dX5_init_152 : decode cX5_init 152 = .ok (.newarray .int, 2) := by decide +kernel
theorem dX5_init_154 : decode cX5_init 154 = .ok (.putfield 65, 3) := by decide +kernel
theorem dX5_init_157 : decode cX5_init 157 = .ok (.aload_n 0, 1) := by decide +kernel
theorem dX5_init_158 : decode cX5_init 158 = .ok (.bipush 40, 2) := by decide +kernel
theorem dX5_init_160 : decode cX5_init 160 = .ok (.newarray .int, 2) := by decide +kernel
theorem dX5_init_162 : decode cX5_init 162 = .ok (.putfield 68, 3) := by decide +kernel
theorem dX5_init_165 : decode cX5_init 165 = .ok (.aload_n 0, 1) := by decide +kernel
theorem dX5_init_166 : decode cX5_init 166 = .ok (.bipush 40, 2) := by decide +kernel
theorem dX5_init_168 : decode cX5_init 168 = .ok (.newarray .long, 2) := by decide +kernel
theorem dX5_init_170 : decode cX5_init 170 = .ok (.putfield 71, 3) := by decide +kernel
theorem dX5_init_173 : decode cX5_init 173 = .ok (.aload_n 0, 1) := by decide +kernel
theorem dX5_init_174 : decode cX5_init 174 = .ok (.bipush 40, 2) := by decide +kernel
theorem dX5_init_176 : decode cX5_init 176 = .ok (.newarray .long, 2) := by decide +kernel
theorem dX5_init_178 : decode cX5_init 178 = .ok (.putfield 74, 3) := by decide +kernel
theorem dX5_init_181 : decode cX5_init 181 = .ok (.aload_n 0, 1) := by decide +kernel
theorem dX5_init_182 : decode cX5_init 182 = .ok (.bipush 40, 2) := by decide +kernel
theorem dX5_init_184 : decode cX5_init 184 = .ok (.newarray .boolean, 2) := by decide +kernel
theorem dX5_init_186 : decode cX5_init 186 = .ok (.putfield 77, 3) := by decide +kernel
theorem dX5_init_189 : decode cX5_init 189 = .ok (.aload_n 0, 1) := by decide +kernel
theorem dX5_init_190 : decode cX5_init 190 = .ok (.bipush 40, 2) := by decide +kernel
theorem dX5_init_192 : decode cX5_init 192 = .ok (.newarray .boolean, 2) := by decide +kernel
theorem dX5_init_194 : decode cX5_init 194 = .ok (.putfield 81, 3) := by decide +kernel
theorem dX5_init_197 : decode cX5_init 197 = .ok (.aload_n 0, 1) := by decide +kernel
theorem dX5_init_198 : decode cX5_init 198 = .ok (.bipush 40, 2) := by decide +kernel
theorem dX5_init_200 : decode cX5_init 200 = .ok (.newarray .long, 2) := by decide +kernel
theorem dX5_init_202 : decode cX5_init 202 = .ok (.putfield 84, 3) := by decide +kernel
theorem dX5_init_205 : decode cX5_init 205 = .ok (.aload_n 0, 1) := by decide +kernel
theorem dX5_init_206 : decode cX5_init 206 = .ok (.bipush 40, 2) := by decide +kernel
theorem dX5_init_208 : decode cX5_init 208 = .ok (.newarray .long, 2) := by decide +kernel
theorem dX5_init_210 : decode cX5_init 210 = .ok (.putfield 87, 3) := by decide +kernel
theorem dX5_init_213 : decode cX5_init 213 = .ok (.aload_n 0, 1) := by decide +kernel
theorem dX5_init_214 : decode cX5_init 214 = .ok (.sipush 328, 3) := by decide +kernel
theorem dX5_init_217 : decode cX5_init 217 = .ok (.newarray .long, 2) := by decide +kernel
theorem dX5_init_219 : decode cX5_init 219 = .ok (.putfield 90, 3) := by decide +kernel
theorem dX5_init_222 : decode cX5_init 222 = .ok (.aload_n 0, 1) := by decide +kernel
theorem dX5_init_223 : decode cX5_init 223 = .ok (.bipush 16, 2) := by decide +kernel
theorem dX5_init_225 : decode cX5_init 225 = .ok (.newarray .int, 2) := by decide +kernel
theorem dX5_init_227 : decode cX5_init 227 = .ok (.putfield 93, 3) := by decide +kernel
theorem dX5_init_230 : decode cX5_init 230 = .ok (.aload_n 0, 1) := by decide +kernel
theorem dX5_init_231 : decode cX5_init 231 = .ok (.bipush 16, 2) := by decide +kernel
theorem dX5_init_233 : decode cX5_init 233 = .ok (.newarray .int, 2) := by decide +kernel
theorem dX5_init_235 : decode cX5_init 235 = .ok (.putfield 96, 3) := by decide +kernel
theorem dX5_init_238 : decode cX5_init 238 = .ok (.aload_n 0, 1) := by decide +kernel
theorem dX5_init_239 : decode cX5_init 239 = .ok (.bipush 16, 2) := by decide +kernel
theorem dX5_init_241 : decode cX5_init 241 = .ok (.newarray .int, 2) := by decide +kernel
theorem dX5_init_243 : decode cX5_init 243 = .ok (.putfield 99, 3) := by decide +kernel
theorem dX5_init_246 : decode cX5_init 246 = .ok (.aload_n 0, 1) := by decide +kernel
theorem dX5_init_247 : decode cX5_init 247 = .ok (.bipush 16, 2) := by decide +kernel
theorem dX5_init_249 : decode cX5_init 249 = .ok (.newarray .boolean, 2) := by decide +kernel
theorem dX5_init_251 : decode cX5_init 251 = .ok (.putfield 102, 3) := by decide +kernel
theorem dX5_init_254 : decode cX5_init 254 = .ok (.aload_n 0, 1) := by decide +kernel
theorem dX5_init_255 : decode cX5_init 255 = .ok (.bipush 8, 2) := by decide +kernel
theorem dX5_init_257 : decode cX5_init 257 = .ok (.newarray .long, 2) := by decide +kernel
theorem dX5_init_259 : decode cX5_init 259 = .ok (.putfield 105, 3) := by decide +kernel
theorem dX5_init_262 : decode cX5_init 262 = .ok (.aload_n 0, 1) := by decide +kernel
theorem dX5_init_263 : decode cX5_init 263 = .ok (.bipush 40, 2) := by decide +kernel
theorem dX5_init_265 : decode cX5_init 265 = .ok (.newarray .int, 2) := by decide +kernel
theorem dX5_init_267 : decode cX5_init 267 = .ok (.putfield 108, 3) := by decide +kernel
theorem dX5_init_270 : decode cX5_init 270 = .ok (.aload_n 0, 1) := by decide +kernel
theorem dX5_init_271 : decode cX5_init 271 = .ok (.iconst 0, 1) := by decide +kernel
theorem dX5_init_272 : decode cX5_init 272 = .ok (.putfield 111, 3) := by decide +kernel
theorem dX5_init_275 : decode cX5_init 275 = .ok (.return_, 1) := by decide +kernel
theorem dX5_in_0 : decode cX5_in 0 = .ok (.iload_n 0, 1) := by decide +kernel
theorem dX5_in_1 : decode cX5_in 1 = .ok (.iload_n 1, 1) := by decide +kernel
theorem dX5_in_2 : decode cX5_in 2 = .ok (.if_icmp .lt 12, 3) := by decide +kernel
theorem dX5_in_5 : decode cX5_in 5 = .ok (.iload_n 0, 1) := by decide +kernel
theorem dX5_in_6 : decode cX5_in 6 = .ok (.iload_n 2, 1) := by decide +kernel
theorem dX5_in_7 : decode cX5_in 7 = .ok (.if_icmp .gt 7, 3) := by decide +kernel
theorem dX5_in_10 : decode cX5_in 10 = .ok (.iconst 1, 1) := by decide +kernel
theorem dX5_in_11 : decode cX5_in 11 = .ok (.goto 4, 3) := by decide +kernel
theorem dX5_in_14 : decode cX5_in 14 = .ok (.iconst 0, 1) := by decide +kernel
theorem dX5_in_15 : decode cX5_in 15 = .ok (.ireturn, 1) := by decide +kernel
theorem dX5_call_0 : decode cX5_call 0 = .ok (.aload_n 0, 1) := by decide +kernel
theorem dX5_call_1 : decode cX5_call 1 = .ok (.iconst 0, 1) := by decide +kernel
theorem dX5_call_2 : decode cX5_call 2 = .ok (.putfield 115, 3) := by decide +kernel
theorem dX5_call_5 : decode cX5_call 5 = .ok (.iload_n 1, 1) := by decide +kernel
theorem dX5_call_6 : decode cX5_call 6 = .ok (.iconst 0, 1) := by decide +kernel
theorem dX5_call_7 : decode cX5_call 7 = .ok (.iconst 5, 1) := by decide +kernel
theorem dX5_call_8 : decode cX5_call 8 = .ok (.invokestatic 119, 3) := by decide +kernel
theorem dX5_call_11 : decode cX5_call 11 = .ok (.ifCond .eq 46, 3) := by decide +kernel
theorem dX5_call_14 : decode cX5_call 14 = .ok (.iload_n 2, 1) := by decide +kernel
theorem dX5_call_15 : decode cX5_call 15 = .ok (.iconst 0, 1) := by decide +kernel
theorem dX5_call_16 : decode cX5_call 16 = .ok (.bipush 7, 2) := by decide +kernel
theorem dX5_call_18 : decode cX5_call 18 = .ok (.invokestatic 119, 3) := by decide +kernel
theorem dX5_call_21 : decode cX5_call 21 = .ok (.ifCond .eq 36, 3) := by decide +kernel
theorem dX5_call_24 : decode cX5_call 24 = .ok (.iload_n 3, 1) := by decide +kernel
theorem dX5_call_25 : decode cX5_call 25 = .ok (.iconst 0, 1) := by decide +kernel
theorem dX5_call_26 : decode cX5_call 26 = .ok (.bipush 7, 2) := by decide +kernel
theorem dX5_call_28 : decode cX5_call 28 = .ok (.invokestatic 119, 3) := by decide +kernel
theorem dX5_call_31 : decode cX5_call 31 = .ok (.ifCond .eq 26, 3) := by decide +kernel
theorem dX5_call_34 : decode cX5_call 34 = .ok (.iload 4, 2) := by decide +kernel
theorem dX5_call_36 : decode cX5_call 36 = .ok (.ldc 123, 2) := by decide +kernel
theorem dX5_call_38 : decode cX5_call 38 = .ok (.ldc 124, 2) := by decide +kernel
theorem dX5_call_40 : decode cX5_call 40 = .ok (.invokestatic 119, 3) := by decide +kernel
theorem dX5_call_43 : decode cX5_call 43 = .ok (.ifCond .eq 14, 3) := by decide +kernel
theorem dX5_call_46 : decode cX5_call 46 = .ok (.iload 5, 2) := by decide +kernel
theorem dX5_call_48 : decode cX5_call 48 = .ok (.iconst 1, 1) := by decide +kernel
theorem dX5_call_49 : decode cX5_call 49 = .ok (.bipush 9, 2) := by decide +kernel
theorem dX5_call_51 : decode cX5_call 51 = .ok (.invokestatic 119, 3) := by decide +kernel
theorem dX5_call_54 : decode cX5_call 54 = .ok (.ifCond .ne 6, 3) := by decide +kernel
theorem dX5_call_57 : decode cX5_call 57 = .ok (.bipush (-2), 2) := by decide +kernel
theorem dX5_call_59 : decode cX5_call 59 = .ok (.ireturn, 1) := by decide +kernel
theorem dX5_call_60 : decode cX5_call 60 = .ok (.aload_n 0, 1) := by decide +kernel
theorem dX5_call_61 : decode cX5_call 61 = .ok (.getfield 125, 3) := by decide +kernel
theorem dX5_call_64 : decode cX5_call 64 = .ok (.bipush 40, 2) := by decide +kernel
theorem dX5_call_66 : decode cX5_call 66 = .ok (.if_icmp .ne 6, 3) := by decide +kernel
theorem dX5_call_69 : decode cX5_call 69 = .ok (.bipush (-4), 2) := by decide +kernel
theorem dX5_call_71 : decode cX5_call 71 = .ok (.ireturn, 1) := by decide +kernel
theorem dX5_call_72 : decode cX5_call 72 = .ok (.aload_n 0, 1) := by decide +kernel
theorem dX5_call_73 : decode cX5_call 73 = .ok (.getfield 7, 3) := by decide +kernel
theorem dX5_call_76 : decode cX5_call 76 = .ok (.aload_n 0, 1) := by decide +kernel
theorem dX5_call_77 : decode cX5_call 77 = .ok (.getfield 125, 3) := by decide +kernel
theorem dX5_call_80 : decode cX5_call 80 = .ok (.iload_n 1, 1) := by decide +kernel
theorem dX5_call_81 : decode cX5_call 81 = .ok (.iastore, 1) := by decide +kernel
theorem dX5_call_82 : decode cX5_call 82 = .ok (.aload_n 0, 1) := by decide +kernel
theorem dX5_call_83 : decode cX5_call 83 = .ok (.getfield 13, 3) := by decide +kernel
theorem dX5_call_86 : decode cX5_call 86 = .ok (.aload_n 0, 1) := by decide +kernel
theorem dX5_call_87 : decode cX5_call 87 = .ok (.getfield 125, 3) := by decide +kernel
theorem dX5_call_90 : decode cX5_call 90 = .ok (.iload_n 2, 1) := by decide +kernel
theorem dX5_call_91 : decode cX5_call 91 = .ok (.iastore, 1) := by decide +kernel
theorem dX5_call_92 : decode cX5_call 92 = .ok (.aload_n 0, 1) := by decide +kernel
theorem dX5_call_93 : decode cX5_call 93 = .ok (.getfield 16, 3) := by decide +kernel
theorem dX5_call_96 : decode cX5_call 96 = .ok (.aload_n 0, 1) := by decide +kernel
theorem dX5_call_97 : decode cX5_call 97 = .ok (.getfield 125, 3) := by decide +kernel
theorem dX5_call_100 : decode cX5_call 100 = .ok (.iload_n 3, 1) := by decide +kernel
theorem dX5_call_101 : decode cX5_call 101 = .ok (.iastore, 1) := by decide +kernel
theorem dX5_call_102 : decode cX5_call 102 = .ok (.aload_n 0, 1) := by decide +kernel
theorem dX5_call_103 : decode cX5_call 103 = .ok (.getfield 19, 3) := by decide +kernel
theorem dX5_call_106 : decode cX5_call 106 = .ok (.aload_n 0, 1) := by decide +kernel
theorem dX5_call_107 : decode cX5_call 107 = .ok (.getfield 125, 3) := by decide +kernel
theorem dX5_call_110 : decode cX5_call 110 = .ok (.iload 4, 2) := by decide +kernel
theorem dX5_call_112 : decode cX5_call 112 = .ok (.iastore, 1) := by decide +kernel
theorem dX5_call_113 : decode cX5_call 113 = .ok (.aload_n 0, 1) := by decide +kernel
theorem dX5_call_114 : decode cX5_call 114 = .ok (.getfield 22, 3) := by decide +kernel
theorem dX5_call_117 : decode cX5_call 117 = .ok (.aload_n 0, 1) := by decide +kernel
theorem dX5_call_118 : decode cX5_call 118 = .ok (.getfield 125, 3) := by decide +kernel
theorem dX5_call_121 : decode cX5_call 121 = .ok (.iload 5, 2) := by decide +kernel
theorem dX5_call_123 : decode cX5_call 123 = .ok (.iastore, 1) := by decide +kernel
theorem dX5_call_124 : decode cX5_call 124 = .ok (.aload_n 0, 1) := by decide +kernel
theorem dX5_call_125 : decode cX5_call 125 = .ok (.dup, 1) := by decide +kernel
theorem dX5_call_126 : decode cX5_call 126 = .ok (.getfield 125, 3) := by decide +kernel
theorem dX5_call_129 : decode cX5_call 129 = .ok (.iconst 1, 1) := by decide +kernel
theorem dX5_call_130 : decode cX5_call 130 = .ok (.iadd, 1) := by decide +kernel
theorem dX5_call_131 : decode cX5_call 131 = .ok (.putfield 125, 3) := by decide +kernel
theorem dX5_call_134 : decode cX5_call 134 = .ok (.aload_n 0, 1) := by decide +kernel
theorem dX5_call_135 : decode cX5_call 135 = .ok (.getfield 125, 3) := by decide +kernel
theorem dX5_call_138 : decode cX5_call 138 = .ok (.iconst 1, 1) := by decide +kernel
theorem dX5_call_139 : decode cX5_call 139 = .ok (.isub, 1) := by decide +kernel
theorem dX5_call_140 : decode cX5_call 140 = .ok (.ireturn, 1) := by decide +kernel
theorem dX5_clear_0 : decode cX5_clear 0 = .ok (.aload_n 0, 1) := by decide +kernel
theorem dX5_clear_1 : decode cX5_clear 1 = .ok (.iconst 0, 1) := by decide +kernel
theorem dX5_clear_2 : decode cX5_clear 2 = .ok (.putfield 115, 3) := by decide +kernel
theorem dX5_clear_5 : decode cX5_clear 5 = .ok (.aload_n 0, 1) := by decide +kernel
theorem dX5_clear_6 : decode cX5_clear 6 = .ok (.getfield 125, 3) := by decide +kernel
theorem dX5_clear_9 : decode cX5_clear 9 = .ok (.istore_n 1, 1) := by decide +kernel
theorem dX5_clear_10 : decode cX5_clear 10 = .ok (.aload_n 0, 1) := by decide +kernel
theorem dX5_clear_11 : decode cX5_clear 11 = .ok (.iconst 0, 1) := by decide +kernel
theorem dX5_clear_12 : decode cX5_clear 12 = .ok (.putfield 125, 3) := by decide +kernel
theorem dX5_clear_15 : decode cX5_clear 15 = .ok (.aload_n 0, 1) := by decide +kernel
theorem dX5_clear_16 : decode cX5_clear 16 = .ok (.iconst 0, 1) := by decide +kernel
theorem dX5_clear_17 : decode cX5_clear 17 = .ok (.putfield 111, 3) := by decide +kernel
theorem dX5_clear_20 : decode cX5_clear 20 = .ok (.iload_n 1, 1) := by decide +kernel
theorem dX5_clear_21 : decode cX5_clear 21 = .ok (.ireturn, 1) := by decide +kernel
theorem dX5_gone_0 : decode cX5_gone 0 = .ok (.aload_n 0, 1) := by decide +kernel
theorem dX5_gone_1 : decode cX5_gone 1 = .ok (.iconst 0, 1) := by decide +kernel
theorem dX5_gone_2 : decode cX5_gone 2 = .ok (.putfield 115, 3) := by decide +kernel
theorem dX5_gone_5 : decode cX5_gone 5 = .ok (.iload_n 1, 1) := by decide +kernel
theorem dX5_gone_6 : decode cX5_gone 6 = .ok (.iconst 0, 1) := by decide +kernel
theorem dX5_gone_7 : decode cX5_gone 7 = .ok (.bipush 15, 2) := by decide +kernel
theorem dX5_gone_9 : decode cX5_gone 9 = .ok (.invokestatic 119, 3) := by decide +kernel
theorem dX5_gone_12 : decode cX5_gone 12 = .ok (.ifCond .eq 13, 3) := by decide +kernel
theorem dX5_gone_15 : decode cX5_gone 15 = .ok (.iload_n 2, 1) := by decide +kernel
theorem dX5_gone_16 : decode cX5_gone 16 = .ok (.iconst 0, 1) := by decide +kernel
theorem dX5_gone_17 : decode cX5_gone 17 = .ok (.bipush 99, 2) := by decide +kernel
theorem dX5_gone_19 : decode cX5_gone 19 = .ok (.invokestatic 119, 3) := by decide +kernel
theorem dX5_gone_22 : decode cX5_gone 22 = .ok (.ifCond .ne 6, 3) := by decide +kernel
theorem dX5_gone_25 : decode cX5_gone 25 = .ok (.bipush (-2), 2) := by decide +kernel
theorem dX5_gone_27 : decode cX5_gone 27 = .ok (.ireturn, 1) := by decide +kernel
theorem dX5_gone_28 : decode cX5_gone 28 = .ok (.aload_n 0, 1) := by decide +kernel
theorem dX5_gone_29 : decode cX5_gone 29 = .ok (.getfield 25, 3) := by decide +kernel
theorem dX5_gone_32 : decode cX5_gone 32 = .ok (.iload_n 1, 1) := by decide +kernel
theorem dX5_gone_33 : decode cX5_gone 33 = .ok (.iaload, 1) := by decide +kernel
theorem dX5_gone_34 : decode cX5_gone 34 = .ok (.istore_n 3, 1) := by decide +kernel
theorem dX5_gone_35 : decode cX5_gone 35 = .ok (.aload_n 0, 1) := by decide +kernel
theorem dX5_gone_36 : decode cX5_gone 36 = .ok (.getfield 25, 3) := by decide +kernel
theorem dX5_gone_39 : decode cX5_gone 39 = .ok (.iload_n 1, 1) := by decide +kernel
theorem dX5_gone_40 : decode cX5_gone 40 = .ok (.iload_n 2, 1) := by decide +kernel
theorem dX5_gone_41 : decode cX5_gone 41 = .ok (.iastore, 1) := by decide +kernel
theorem dX5_gone_42 : decode cX5_gone 42 = .ok (.iload_n 3, 1) := by decide +kernel
theorem dX5_gone_43 : decode cX5_gone 43 = .ok (.ireturn, 1) := by decide +kernel
theorem dX5_reads_0 : decode cX5_reads 0 = .ok (.iload_n 1, 1) := by decide +kernel
theorem dX5_reads_1 : decode cX5_reads 1 = .ok (.iconst 1, 1) := by decide +kernel
theorem dX5_reads_2 : decode cX5_reads 2 = .ok (.isub, 1) := by decide +kernel
theorem dX5_reads_3 : decode cX5_reads 3 = .ok (.istore_n 3, 1) := by decide +kernel
theorem dX5_reads_4 : decode cX5_reads 4 = .ok (.iload_n 3, 1) := by decide +kernel
theorem dX5_reads_5 : decode cX5_reads 5 = .ok (.ifCond .lt 71, 3) := by decide +kernel
theorem dX5_reads_8 : decode cX5_reads 8 = .ok (.aload_n 0, 1) := by decide +kernel
theorem dX5_reads_9 : decode cX5_reads 9 = .ok (.getfield 53, 3) := by decide +kernel
theorem dX5_reads_12 : decode cX5_reads 12 = .ok (.iload_n 3, 1) := by decide +kernel
theorem dX5_reads_13 : decode cX5_reads 13 = .ok (.iaload, 1) := by decide +kernel
theorem dX5_reads_14 : decode cX5_reads 14 = .ok (.iconst 2, 1) := by decide +kernel
theorem dX5_reads_15 : decode cX5_reads 15 = .ok (.if_icmp .lt 55, 3) := by decide +kernel
theorem dX5_reads_18 : decode cX5_reads 18 = .ok (.aload_n 0, 1) := by decide +kernel
theorem dX5_reads_19 : decode cX5_reads 19 = .ok (.getfield 81, 3) := by decide +kernel
theorem dX5_reads_22 : decode cX5_reads 22 = .ok (.iload_n 3, 1) := by decide +kernel
theorem dX5_reads_23 : decode cX5_reads 23 = .ok (.baload, 1) := by decide +kernel
theorem dX5_reads_24 : decode cX5_reads 24 = .ok (.ifCond .eq 20, 3) := by decide +kernel
theorem dX5_reads_27 : decode cX5_reads 27 = .ok (.aload_n 0, 1) := by decide +kernel
theorem dX5_reads_28 : decode cX5_reads 28 = .ok (.getfield 16, 3) := by decide +kernel
theorem dX5_reads_31 : decode cX5_reads 31 = .ok (.iload_n 3, 1) := by decide +kernel
theorem dX5_reads_32 : decode cX5_reads 32 = .ok (.iaload, 1) := by decide +kernel
theorem dX5_reads_33 : decode cX5_reads 33 = .ok (.iload_n 2, 1) := by decide +kernel
theorem dX5_reads_34 : decode cX5_reads 34 = .ok (.if_icmp .ne 10, 3) := by decide +kernel
theorem dX5_reads_37 : decode cX5_reads 37 = .ok (.aload_n 0, 1) := by decide +kernel
theorem dX5_reads_38 : decode cX5_reads 38 = .ok (.getfield 87, 3) := by decide +kernel
theorem dX5_reads_41 : decode cX5_reads 41 = .ok (.iload_n 3, 1) := by decide +kernel
theorem dX5_reads_42 : decode cX5_reads 42 = .ok (.laload, 1) := by decide +kernel
theorem dX5_reads_43 : decode cX5_reads 43 = .ok (.lreturn, 1) := by decide +kernel
theorem dX5_reads_44 : decode cX5_reads 44 = .ok (.aload_n 0, 1) := by decide +kernel
theorem dX5_reads_45 : decode cX5_reads 45 = .ok (.getfield 77, 3) := by decide +kernel
theorem dX5_reads_48 : decode cX5_reads 48 = .ok (.iload_n 3, 1) := by decide +kernel
theorem dX5_reads_49 : decode cX5_reads 49 = .ok (.baload, 1) := by decide +kernel
theorem dX5_reads_50 : decode cX5_reads 50 = .ok (.ifCond .eq 20, 3) := by decide +kernel
theorem dX5_reads_53 : decode cX5_reads 53 = .ok (.aload_n 0, 1) := by decide +kernel
theorem dX5_reads_54 : decode cX5_reads 54 = .ok (.getfield 13, 3) := by decide +kernel
theorem dX5_reads_57 : decode cX5_reads 57 = .ok (.iload_n 3, 1) := by decide +kernel
theorem dX5_reads_58 : decode cX5_reads 58 = .ok (.iaload, 1) := by decide +kernel
theorem dX5_reads_59 : decode cX5_reads 59 = .ok (.iload_n 2, 1) := by decide +kernel
theorem dX5_reads_60 : decode cX5_reads 60 = .ok (.if_icmp .ne 10, 3) := by decide +kernel
theorem dX5_reads_63 : decode cX5_reads 63 = .ok (.aload_n 0, 1) := by decide +kernel
theorem dX5_reads_64 : decode cX5_reads 64 = .ok (.getfield 84, 3) := by decide +kernel
theorem dX5_reads_67 : decode cX5_reads 67 = .ok (.iload_n 3, 1) := by decide +kernel
theorem dX5_reads_68 : decode cX5_reads 68 = .ok (.laload, 1) := by decide +kernel
theorem dX5_reads_69 : decode cX5_reads 69 = .ok (.lreturn, 1) := by decide +kernel
theorem dX5_reads_70 : decode cX5_reads 70 = .ok (.iinc 3 (-1), 3) := by decide +kernel
theorem dX5_reads_73 : decode cX5_reads 73 = .ok (.goto (-69), 3) := by decide +kernel
theorem dX5_reads_76 : decode cX5_reads 76 = .ok (.lconst 0, 1) := by decide +kernel
theorem dX5_reads_77 : decode cX5_reads 77 = .ok (.lreturn, 1) := by decide +kernel
theorem dX5_work_0 : decode cX5_work 0 = .ok (.aload_n 0, 1) := by decide +kernel
theorem dX5_work_1 : decode cX5_work 1 = .ok (.getfield 71, 3) := by decide +kernel
theorem dX5_work_4 : decode cX5_work 4 = .ok (.iload_n 1, 1) := by decide +kernel
theorem dX5_work_5 : decode cX5_work 5 = .ok (.laload, 1) := by decide +kernel
theorem dX5_work_6 : decode cX5_work 6 = .ok (.lstore_n 2, 1) := by decide +kernel
theorem dX5_work_7 : decode cX5_work 7 = .ok (.aload_n 0, 1) := by decide +kernel
theorem dX5_work_8 : decode cX5_work 8 = .ok (.getfield 74, 3) := by decide +kernel
theorem dX5_work_11 : decode cX5_work 11 = .ok (.iload_n 1, 1) := by decide +kernel
theorem dX5_work_12 : decode cX5_work 12 = .ok (.laload, 1) := by decide +kernel
theorem dX5_work_13 : decode cX5_work 13 = .ok (.lstore 4, 2) := by decide +kernel
theorem dX5_work_15 : decode cX5_work 15 = .ok (.aload_n 0, 1) := by decide +kernel
theorem dX5_work_16 : decode cX5_work 16 = .ok (.getfield 19, 3) := by decide +kernel
theorem dX5_work_19 : decode cX5_work 19 = .ok (.iload_n 1, 1) := by decide +kernel
theorem dX5_work_20 : decode cX5_work 20 = .ok (.iaload, 1) := by decide +kernel
theorem dX5_work_21 : decode cX5_work 21 = .ok (.i2l, 1) := by decide +kernel
theorem dX5_work_22 : decode cX5_work 22 = .ok (.lstore 6, 2) := by decide +kernel
theorem dX5_work_24 : decode cX5_work 24 = .ok (.aload_n 0, 1) := by decide +kernel
theorem dX5_work_25 : decode cX5_work 25 = .ok (.getfield 77, 3) := by decide +kernel
theorem dX5_work_28 : decode cX5_work 28 = .ok (.iload_n 1, 1) := by decide +kernel
theorem dX5_work_29 : decode cX5_work 29 = .ok (.iconst 0, 1) := by decide +kernel
theorem dX5_work_30 : decode cX5_work 30 = .ok (.bastore, 1) := by decide +kernel
theorem dX5_work_31 : decode cX5_work 31 = .ok (.aload_n 0, 1) := by decide +kernel
theorem dX5_work_32 : decode cX5_work 32 = .ok (.getfield 81, 3) := by decide +kernel
theorem dX5_work_35 : decode cX5_work 35 = .ok (.iload_n 1, 1) := by decide +kernel
theorem dX5_work_36 : decode cX5_work 36 = .ok (.iconst 0, 1) := by decide +kernel
theorem dX5_work_37 : decode cX5_work 37 = .ok (.bastore, 1) := by decide +kernel
theorem dX5_work_38 : decode cX5_work 38 = .ok (.iconst 0, 1) := by decide +kernel
theorem dX5_work_39 : decode cX5_work 39 = .ok (.istore 8, 2) := by decide +kernel
theorem dX5_work_41 : decode cX5_work 41 = .ok (.aload_n 0, 1) := by decide +kernel
theorem dX5_work_42 : decode cX5_work 42 = .ok (.getfield 7, 3) := by decide +kernel
theorem dX5_work_45 : decode cX5_work 45 = .ok (.iload_n 1, 1) := by decide +kernel
theorem dX5_work_46 : decode cX5_work 46 = .ok (.iaload, 1) := by decide +kernel
theorem dX5_work_47 : decode cX5_work 47 = .ok (.tableswitch 211 0 4 #[33, 51, 74, 162, 179], 33) := by decide +kernel
theorem dX5_work_80 : decode cX5_work 80 = .ok (.aload_n 0, 1) := by decide +kernel
theorem dX5_work_81 : decode cX5_work 81 = .ok (.getfield 81, 3) := by decide +kernel
theorem dX5_work_84 : decode cX5_work 84 = .ok (.iload_n 1, 1) := by decide +kernel
theorem dX5_work_85 : decode cX5_work 85 = .ok (.iconst 1, 1) := by decide +kernel
theorem dX5_work_86 : decode cX5_work 86 = .ok (.bastore, 1) := by decide +kernel
theorem dX5_work_87 : decode cX5_work 87 = .ok (.aload_n 0, 1) := by decide +kernel
theorem dX5_work_88 : decode cX5_work 88 = .ok (.getfield 87, 3) := by decide +kernel
theorem dX5_work_91 : decode cX5_work 91 = .ok (.iload_n 1, 1) := by decide +kernel
theorem dX5_work_92 : decode cX5_work 92 = .ok (.lload 6, 2) := by decide +kernel
theorem dX5_work_94 : decode cX5_work 94 = .ok (.lastore, 1) := by decide +kernel
theorem dX5_work_95 : decode cX5_work 95 = .ok (.goto 201, 3) := by decide +kernel
theorem dX5_work_98 : decode cX5_work 98 = .ok (.aload_n 0, 1) := by decide +kernel
theorem dX5_work_99 : decode cX5_work 99 = .ok (.getfield 81, 3) := by decide +kernel
theorem dX5_work_102 : decode cX5_work 102 = .ok (.iload_n 1, 1) := by decide +kernel
theorem dX5_work_103 : decode cX5_work 103 = .ok (.iconst 1, 1) := by decide +kernel
theorem dX5_work_104 : decode cX5_work 104 = .ok (.bastore, 1) := by decide +kernel
theorem dX5_work_105 : decode cX5_work 105 = .ok (.aload_n 0, 1) := by decide +kernel
theorem dX5_work_106 : decode cX5_work 106 = .ok (.getfield 87, 3) := by decide +kernel
theorem dX5_work_109 : decode cX5_work 109 = .ok (.iload_n 1, 1) := by decide +kernel
theorem dX5_work_110 : decode cX5_work 110 = .ok (.lload 4, 2) := by decide +kernel
theorem dX5_work_112 : decode cX5_work 112 = .ok (.lload_n 2, 1) := by decide +kernel
theorem dX5_work_113 : decode cX5_work 113 = .ok (.ladd, 1) := by decide +kernel
theorem dX5_work_114 : decode cX5_work 114 = .ok (.lload 6, 2) := by decide +kernel
theorem dX5_work_116 : decode cX5_work 116 = .ok (.ladd, 1) := by decide +kernel
theorem dX5_work_117 : decode cX5_work 117 = .ok (.lastore, 1) := by decide +kernel
theorem dX5_work_118 : decode cX5_work 118 = .ok (.goto 178, 3) := by decide +kernel
theorem dX5_work_121 : decode cX5_work 121 = .ok (.lload_n 2, 1) := by decide +kernel
theorem dX5_work_122 : decode cX5_work 122 = .ok (.lload 6, 2) := by decide +kernel
theorem dX5_work_124 : decode cX5_work 124 = .ok (.lcmp, 1) := by decide +kernel
theorem dX5_work_125 : decode cX5_work 125 = .ok (.ifCond .lt 10, 3) := by decide +kernel
theorem dX5_work_128 : decode cX5_work 128 = .ok (.lload 6, 2) := by decide +kernel
theorem dX5_work_130 : decode cX5_work 130 = .ok (.lconst 0, 1) := by decide +kernel
theorem dX5_work_131 : decode cX5_work 131 = .ok (.lcmp, 1) := by decide +kernel
theorem dX5_work_132 : decode cX5_work 132 = .ok (.ifCond .ge 7, 3) := by decide +kernel
theorem dX5_work_135 : decode cX5_work 135 = .ok (.iconst 1, 1) := by decide +kernel
theorem dX5_work_136 : decode cX5_work 136 = .ok (.goto 4, 3) := by decide +kernel
theorem dX5_work_139 : decode cX5_work 139 = .ok (.iconst 0, 1) := by decide +kernel
theorem dX5_work_140 : decode cX5_work 140 = .ok (.istore 8, 2) := by decide +kernel
theorem dX5_work_142 : decode cX5_work 142 = .ok (.aload_n 0, 1) := by decide +kernel
theorem dX5_work_143 : decode cX5_work 143 = .ok (.getfield 77, 3) := by decide +kernel
theorem dX5_work_146 : decode cX5_work 146 = .ok (.iload_n 1, 1) := by decide +kernel
theorem dX5_work_147 : decode cX5_work 147 = .ok (.iload 8, 2) := by decide +kernel
theorem dX5_work_149 : decode cX5_work 149 = .ok (.ifCond .ne 22, 3) := by decide +kernel
theorem dX5_work_152 : decode cX5_work 152 = .ok (.aload_n 0, 1) := by decide +kernel
theorem dX5_work_153 : decode cX5_work 153 = .ok (.getfield 13, 3) := by decide +kernel
theorem dX5_work_156 : decode cX5_work 156 = .ok (.iload_n 1, 1) := by decide +kernel
theorem dX5_work_157 : decode cX5_work 157 = .ok (.iaload, 1) := by decide +kernel
theorem dX5_work_158 : decode cX5_work 158 = .ok (.aload_n 0, 1) := by decide +kernel
theorem dX5_work_159 : decode cX5_work 159 = .ok (.getfield 16, 3) := by decide +kernel
theorem dX5_work_162 : decode cX5_work 162 = .ok (.iload_n 1, 1) := by decide +kernel
theorem dX5_work_163 : decode cX5_work 163 = .ok (.iaload, 1) := by decide +kernel
theorem dX5_work_164 : decode cX5_work 164 = .ok (.if_icmp .eq 7, 3) := by decide +kernel
theorem dX5_work_167 : decode cX5_work 167 = .ok (.iconst 1, 1) := by decide +kernel
theorem dX5_work_168 : decode cX5_work 168 = .ok (.goto 4, 3) := by decide +kernel
theorem dX5_work_171 : decode cX5_work 171 = .ok (.iconst 0, 1) := by decide +kernel
theorem dX5_work_172 : decode cX5_work 172 = .ok (.bastore, 1) := by decide +kernel
theorem dX5_work_173 : decode cX5_work 173 = .ok (.aload_n 0, 1) := by decide +kernel
theorem dX5_work_174 : decode cX5_work 174 = .ok (.getfield 81, 3) := by decide +kernel
theorem dX5_work_177 : decode cX5_work 177 = .ok (.iload_n 1, 1) := by decide +kernel
theorem dX5_work_178 : decode cX5_work 178 = .ok (.aload_n 0, 1) := by decide +kernel
theorem dX5_work_179 : decode cX5_work 179 = .ok (.getfield 77, 3) := by decide +kernel
theorem dX5_work_182 : decode cX5_work 182 = .ok (.iload_n 1, 1) := by decide +kernel
theorem dX5_work_183 : decode cX5_work 183 = .ok (.baload, 1) := by decide +kernel
theorem dX5_work_184 : decode cX5_work 184 = .ok (.bastore, 1) := by decide +kernel
theorem dX5_work_185 : decode cX5_work 185 = .ok (.aload_n 0, 1) := by decide +kernel
theorem dX5_work_186 : decode cX5_work 186 = .ok (.getfield 84, 3) := by decide +kernel
theorem dX5_work_189 : decode cX5_work 189 = .ok (.iload_n 1, 1) := by decide +kernel
theorem dX5_work_190 : decode cX5_work 190 = .ok (.lload_n 2, 1) := by decide +kernel
theorem dX5_work_191 : decode cX5_work 191 = .ok (.lload 6, 2) := by decide +kernel
theorem dX5_work_193 : decode cX5_work 193 = .ok (.lsub, 1) := by decide +kernel
theorem dX5_work_194 : decode cX5_work 194 = .ok (.lastore, 1) := by decide +kernel
theorem dX5_work_195 : decode cX5_work 195 = .ok (.aload_n 0, 1) := by decide +kernel
theorem dX5_work_196 : decode cX5_work 196 = .ok (.getfield 87, 3) := by decide +kernel
theorem dX5_work_199 : decode cX5_work 199 = .ok (.iload_n 1, 1) := by decide +kernel
theorem dX5_work_200 : decode cX5_work 200 = .ok (.lload 4, 2) := by decide +kernel
theorem dX5_work_202 : decode cX5_work 202 = .ok (.lload 6, 2) := by decide +kernel
theorem dX5_work_204 : decode cX5_work 204 = .ok (.ladd, 1) := by decide +kernel
theorem dX5_work_205 : decode cX5_work 205 = .ok (.lastore, 1) := by decide +kernel
theorem dX5_work_206 : decode cX5_work 206 = .ok (.goto 90, 3) := by decide +kernel
theorem dX5_work_209 : decode cX5_work 209 = .ok (.lload_n 2, 1) := by decide +kernel
theorem dX5_work_210 : decode cX5_work 210 = .ok (.lload 6, 2) := by decide +kernel
theorem dX5_work_212 : decode cX5_work 212 = .ok (.lcmp, 1) := by decide +kernel
theorem dX5_work_213 : decode cX5_work 213 = .ok (.ifCond .ge 7, 3) := by decide +kernel
theorem dX5_work_216 : decode cX5_work 216 = .ok (.iconst 1, 1) := by decide +kernel
theorem dX5_work_217 : decode cX5_work 217 = .ok (.goto 4, 3) := by decide +kernel
theorem dX5_work_220 : decode cX5_work 220 = .ok (.iconst 0, 1) := by decide +kernel
theorem dX5_work_221 : decode cX5_work 221 = .ok (.istore 8, 2) := by decide +kernel
theorem dX5_work_223 : decode cX5_work 223 = .ok (.goto 73, 3) := by decide +kernel
theorem dX5_work_226 : decode cX5_work 226 = .ok (.aload_n 0, 1) := by decide +kernel
theorem dX5_work_227 : decode cX5_work 227 = .ok (.getfield 77, 3) := by decide +kernel
theorem dX5_work_230 : decode cX5_work 230 = .ok (.iload_n 1, 1) := by decide +kernel
theorem dX5_work_231 : decode cX5_work 231 = .ok (.iconst 1, 1) := by decide +kernel
theorem dX5_work_232 : decode cX5_work 232 = .ok (.bastore, 1) := by decide +kernel
theorem dX5_work_233 : decode cX5_work 233 = .ok (.aload_n 0, 1) := by decide +kernel
theorem dX5_work_234 : decode cX5_work 234 = .ok (.getfield 81, 3) := by decide +kernel
theorem dX5_work_237 : decode cX5_work 237 = .ok (.iload_n 1, 1) := by decide +kernel
theorem dX5_work_238 : decode cX5_work 238 = .ok (.iconst 1, 1) := by decide +kernel
theorem dX5_work_239 : decode cX5_work 239 = .ok (.bastore, 1) := by decide +kernel
theorem dX5_work_240 : decode cX5_work 240 = .ok (.aload_n 0, 1) := by decide +kernel
theorem dX5_work_241 : decode cX5_work 241 = .ok (.getfield 84, 3) := by decide +kernel
theorem dX5_work_244 : decode cX5_work 244 = .ok (.iload_n 1, 1) := by decide +kernel
theorem dX5_work_245 : decode cX5_work 245 = .ok (.lload 4, 2) := by decide +kernel
theorem dX5_work_247 : decode cX5_work 247 = .ok (.lastore, 1) := by decide +kernel
theorem dX5_work_248 : decode cX5_work 248 = .ok (.aload_n 0, 1) := by decide +kernel
theorem dX5_work_249 : decode cX5_work 249 = .ok (.getfield 87, 3) := by decide +kernel
theorem dX5_work_252 : decode cX5_work 252 = .ok (.iload_n 1, 1) := by decide +kernel
theorem dX5_work_253 : decode cX5_work 253 = .ok (.lload_n 2, 1) := by decide +kernel
theorem dX5_work_254 : decode cX5_work 254 = .ok (.lastore, 1) := by decide +kernel
theorem dX5_work_255 : decode cX5_work 255 = .ok (.goto 41, 3) := by decide +kernel
theorem dX5_work_258 : decode cX5_work 258 = .ok (.lload_n 2, 1) := by decide +kernel
theorem dX5_work_259 : decode cX5_work 259 = .ok (.lload 4, 2) := by decide +kernel
theorem dX5_work_261 : decode cX5_work 261 = .ok (.lcmp, 1) := by decide +kernel
theorem dX5_work_262 : decode cX5_work 262 = .ok (.ifCond .eq 7, 3) := by decide +kernel
theorem dX5_work_265 : decode cX5_work 265 = .ok (.iconst 1, 1) := by decide +kernel
theorem dX5_work_266 : decode cX5_work 266 = .ok (.goto 4, 3) := by decide +kernel
theorem dX5_work_269 : decode cX5_work 269 = .ok (.iconst 0, 1) := by decide +kernel
theorem dX5_work_270 : decode cX5_work 270 = .ok (.istore 8, 2) := by decide +kernel
theorem dX5_work_272 : decode cX5_work 272 = .ok (.aload_n 0, 1) := by decide +kernel
theorem dX5_work_273 : decode cX5_work 273 = .ok (.getfield 81, 3) := by decide +kernel
theorem dX5_work_276 : decode cX5_work 276 = .ok (.iload_n 1, 1) := by decide +kernel
theorem dX5_work_277 : decode cX5_work 277 = .ok (.iload 8, 2) := by decide +kernel
theorem dX5_work_279 : decode cX5_work 279 = .ok (.ifCond .ne 7, 3) := by decide +kernel
theorem dX5_work_282 : decode cX5_work 282 = .ok (.iconst 1, 1) := by decide +kernel
theorem dX5_work_283 : decode cX5_work 283 = .ok (.goto 4, 3) := by decide +kernel
theorem dX5_work_286 : decode cX5_work 286 = .ok (.iconst 0, 1) := by decide +kernel
theorem dX5_work_287 : decode cX5_work 287 = .ok (.bastore, 1) := by decide +kernel
theorem dX5_work_288 : decode cX5_work 288 = .ok (.aload_n 0, 1) := by decide +kernel
theorem dX5_work_289 : decode cX5_work 289 = .ok (.getfield 87, 3) := by decide +kernel
theorem dX5_work_292 : decode cX5_work 292 = .ok (.iload_n 1, 1) := by decide +kernel
theorem dX5_work_293 : decode cX5_work 293 = .ok (.lload 6, 2) := by decide +kernel
theorem dX5_work_295 : decode cX5_work 295 = .ok (.lastore, 1) := by decide +kernel
theorem dX5_work_296 : decode cX5_work 296 = .ok (.aload_n 0, 1) := by decide +kernel
theorem dX5_work_297 : decode cX5_work 297 = .ok (.getfield 68, 3) := by decide +kernel
theorem dX5_work_300 : decode cX5_work 300 = .ok (.iload_n 1, 1) := by decide +kernel
theorem dX5_work_301 : decode cX5_work 301 = .ok (.iload 8, 2) := by decide +kernel
theorem dX5_work_303 : decode cX5_work 303 = .ok (.ifCond .eq 7, 3) := by decide +kernel
theorem dX5_work_306 : decode cX5_work 306 = .ok (.iconst 2, 1) := by decide +kernel
theorem dX5_work_307 : decode cX5_work 307 = .ok (.goto 4, 3) := by decide +kernel
theorem dX5_work_310 : decode cX5_work 310 = .ok (.iconst 1, 1) := by decide +kernel
theorem dX5_work_311 : decode cX5_work 311 = .ok (.iastore, 1) := by decide +kernel
theorem dX5_work_312 : decode cX5_work 312 = .ok (.return_, 1) := by decide +kernel
theorem dX5_turnOf_0 : decode cX5_turnOf 0 = .ok (.iload_n 1, 1) := by decide +kernel
theorem dX5_turnOf_1 : decode cX5_turnOf 1 = .ok (.istore_n 3, 1) := by decide +kernel
theorem dX5_turnOf_2 : decode cX5_turnOf 2 = .ok (.iconst 0, 1) := by decide +kernel
theorem dX5_turnOf_3 : decode cX5_turnOf 3 = .ok (.istore 4, 2) := by decide +kernel
theorem dX5_turnOf_5 : decode cX5_turnOf 5 = .ok (.iload 4, 2) := by decide +kernel
theorem dX5_turnOf_7 : decode cX5_turnOf 7 = .ok (.iload_n 2, 1) := by decide +kernel
theorem dX5_turnOf_8 : decode cX5_turnOf 8 = .ok (.if_icmp .ge 29, 3) := by decide +kernel
theorem dX5_turnOf_11 : decode cX5_turnOf 11 = .ok (.aload_n 0, 1) := by decide +kernel
theorem dX5_turnOf_12 : decode cX5_turnOf 12 = .ok (.getfield 102, 3) := by decide +kernel
theorem dX5_turnOf_15 : decode cX5_turnOf 15 = .ok (.iload 4, 2) := by decide +kernel
theorem dX5_turnOf_17 : decode cX5_turnOf 17 = .ok (.baload, 1) := by decide +kernel
theorem dX5_turnOf_18 : decode cX5_turnOf 18 = .ok (.ifCond .ne 13, 3) := by decide +kernel
theorem dX5_turnOf_21 : decode cX5_turnOf 21 = .ok (.iload_n 3, 1) := by decide +kernel
theorem dX5_turnOf_22 : decode cX5_turnOf 22 = .ok (.ifCond .ne 6, 3) := by decide +kernel
theorem dX5_turnOf_25 : decode cX5_turnOf 25 = .ok (.iload 4, 2) := by decide +kernel
theorem dX5_turnOf_27 : decode cX5_turnOf 27 = .ok (.ireturn, 1) := by decide +kernel
theorem dX5_turnOf_28 : decode cX5_turnOf 28 = .ok (.iinc 3 (-1), 3) := by decide +kernel
theorem dX5_turnOf_31 : decode cX5_turnOf 31 = .ok (.iinc 4 1, 3) := by decide +kernel
theorem dX5_turnOf_34 : decode cX5_turnOf 34 = .ok (.goto (-29), 3) := by decide +kernel
theorem dX5_turnOf_37 : decode cX5_turnOf 37 = .ok (.iconst (-1), 1) := by decide +kernel
theorem dX5_turnOf_38 : decode cX5_turnOf 38 = .ok (.ireturn, 1) := by decide +kernel
theorem dX5_openOne_0 : decode cX5_openOne 0 = .ok (.iload_n 1, 1) := by decide +kernel
theorem dX5_openOne_1 : decode cX5_openOne 1 = .ok (.istore_n 3, 1) := by decide +kernel
theorem dX5_openOne_2 : decode cX5_openOne 2 = .ok (.iload_n 3, 1) := by decide +kernel
theorem dX5_openOne_3 : decode cX5_openOne 3 = .ok (.iload_n 2, 1) := by decide +kernel
theorem dX5_openOne_4 : decode cX5_openOne 4 = .ok (.if_icmp .ge 20, 3) := by decide +kernel
theorem dX5_openOne_7 : decode cX5_openOne 7 = .ok (.aload_n 0, 1) := by decide +kernel
theorem dX5_openOne_8 : decode cX5_openOne 8 = .ok (.getfield 53, 3) := by decide +kernel
theorem dX5_openOne_11 : decode cX5_openOne 11 = .ok (.iload_n 3, 1) := by decide +kernel
theorem dX5_openOne_12 : decode cX5_openOne 12 = .ok (.iaload, 1) := by decide +kernel
theorem dX5_openOne_13 : decode cX5_openOne 13 = .ok (.ifCond .ne 5, 3) := by decide +kernel
theorem dX5_openOne_16 : decode cX5_openOne 16 = .ok (.iload_n 3, 1) := by decide +kernel
theorem dX5_openOne_17 : decode cX5_openOne 17 = .ok (.ireturn, 1) := by decide +kernel
theorem dX5_openOne_18 : decode cX5_openOne 18 = .ok (.iinc 3 1, 3) := by decide +kernel
theorem dX5_openOne_21 : decode cX5_openOne 21 = .ok (.goto (-19), 3) := by decide +kernel
theorem dX5_openOne_24 : decode cX5_openOne 24 = .ok (.iconst (-1), 1) := by decide +kernel
theorem dX5_openOne_25 : decode cX5_openOne 25 = .ok (.ireturn, 1) := by decide +kernel
theorem dX5_take_0 : decode cX5_take 0 = .ok (.aload_n 0, 1) := by decide +kernel
theorem dX5_take_1 : decode cX5_take 1 = .ok (.getfield 56, 3) := by decide +kernel
theorem dX5_take_4 : decode cX5_take 4 = .ok (.iload_n 2, 1) := by decide +kernel
theorem dX5_take_5 : decode cX5_take 5 = .ok (.dup2, 1) := by decide +kernel
theorem dX5_take_6 : decode cX5_take 6 = .ok (.iaload, 1) := by decide +kernel
theorem dX5_take_7 : decode cX5_take 7 = .ok (.iconst 1, 1) := by decide +kernel
theorem dX5_take_8 : decode cX5_take 8 = .ok (.iadd, 1) := by decide +kernel
theorem dX5_take_9 : decode cX5_take 9 = .ok (.iastore, 1) := by decide +kernel
theorem dX5_take_10 : decode cX5_take 10 = .ok (.aload_n 0, 1) := by decide +kernel
theorem dX5_take_11 : decode cX5_take 11 = .ok (.getfield 50, 3) := by decide +kernel
theorem dX5_take_14 : decode cX5_take 14 = .ok (.iconst 2, 1) := by decide +kernel
theorem dX5_take_15 : decode cX5_take 15 = .ok (.dup2, 1) := by decide +kernel
theorem dX5_take_16 : decode cX5_take 16 = .ok (.iaload, 1) := by decide +kernel
theorem dX5_take_17 : decode cX5_take 17 = .ok (.iconst 1, 1) := by decide +kernel
theorem dX5_take_18 : decode cX5_take 18 = .ok (.iadd, 1) := by decide +kernel
theorem dX5_take_19 : decode cX5_take 19 = .ok (.iastore, 1) := by decide +kernel
theorem dX5_take_20 : decode cX5_take 20 = .ok (.aload_n 0, 1) := by decide +kernel
theorem dX5_take_21 : decode cX5_take 21 = .ok (.getfield 59, 3) := by decide +kernel
theorem dX5_take_24 : decode cX5_take 24 = .ok (.iload_n 2, 1) := by decide +kernel
theorem dX5_take_25 : decode cX5_take 25 = .ok (.aload_n 0, 1) := by decide +kernel
theorem dX5_take_26 : decode cX5_take 26 = .ok (.getfield 59, 3) := by decide +kernel
theorem dX5_take_29 : decode cX5_take 29 = .ok (.iload_n 2, 1) := by decide +kernel
theorem dX5_take_30 : decode cX5_take 30 = .ok (.iaload, 1) := by decide +kernel
theorem dX5_take_31 : decode cX5_take 31 = .ok (.ifCond .ne 7, 3) := by decide +kernel
theorem dX5_take_34 : decode cX5_take 34 = .ok (.iload_n 3, 1) := by decide +kernel
theorem dX5_take_35 : decode cX5_take 35 = .ok (.goto 9, 3) := by decide +kernel
theorem dX5_take_38 : decode cX5_take 38 = .ok (.aload_n 0, 1) := by decide +kernel
theorem dX5_take_39 : decode cX5_take 39 = .ok (.getfield 59, 3) := by decide +kernel
theorem dX5_take_42 : decode cX5_take 42 = .ok (.iload_n 2, 1) := by decide +kernel
theorem dX5_take_43 : decode cX5_take 43 = .ok (.iaload, 1) := by decide +kernel
theorem dX5_take_44 : decode cX5_take 44 = .ok (.iastore, 1) := by decide +kernel
theorem dX5_take_45 : decode cX5_take 45 = .ok (.aload_n 0, 1) := by decide +kernel
theorem dX5_take_46 : decode cX5_take 46 = .ok (.getfield 99, 3) := by decide +kernel
theorem dX5_take_49 : decode cX5_take 49 = .ok (.iload_n 1, 1) := by decide +kernel
theorem dX5_take_50 : decode cX5_take 50 = .ok (.dup2, 1) := by decide +kernel
theorem dX5_take_51 : decode cX5_take 51 = .ok (.iaload, 1) := by decide +kernel
theorem dX5_take_52 : decode cX5_take 52 = .ok (.iconst 1, 1) := by decide +kernel
theorem dX5_take_53 : decode cX5_take 53 = .ok (.iadd, 1) := by decide +kernel
theorem dX5_take_54 : decode cX5_take 54 = .ok (.iastore, 1) := by decide +kernel
theorem dX5_take_55 : decode cX5_take 55 = .ok (.aload_n 0, 1) := by decide +kernel
theorem dX5_take_56 : decode cX5_take 56 = .ok (.getfield 99, 3) := by decide +kernel
theorem dX5_take_59 : decode cX5_take 59 = .ok (.iload_n 1, 1) := by decide +kernel
theorem dX5_take_60 : decode cX5_take 60 = .ok (.iaload, 1) := by decide +kernel
theorem dX5_take_61 : decode cX5_take 61 = .ok (.aload_n 0, 1) := by decide +kernel
theorem dX5_take_62 : decode cX5_take 62 = .ok (.getfield 25, 3) := by decide +kernel
theorem dX5_take_65 : decode cX5_take 65 = .ok (.iload_n 1, 1) := by decide +kernel
theorem dX5_take_66 : decode cX5_take 66 = .ok (.iaload, 1) := by decide +kernel
theorem dX5_take_67 : decode cX5_take 67 = .ok (.if_icmp .ne 21, 3) := by decide +kernel
theorem dX5_take_70 : decode cX5_take 70 = .ok (.aload_n 0, 1) := by decide +kernel
theorem dX5_take_71 : decode cX5_take 71 = .ok (.getfield 102, 3) := by decide +kernel
theorem dX5_take_74 : decode cX5_take 74 = .ok (.iload_n 1, 1) := by decide +kernel
theorem dX5_take_75 : decode cX5_take 75 = .ok (.iconst 1, 1) := by decide +kernel
theorem dX5_take_76 : decode cX5_take 76 = .ok (.bastore, 1) := by decide +kernel
theorem dX5_take_77 : decode cX5_take 77 = .ok (.aload_n 0, 1) := by decide +kernel
theorem dX5_take_78 : decode cX5_take 78 = .ok (.getfield 50, 3) := by decide +kernel
theorem dX5_take_81 : decode cX5_take 81 = .ok (.iconst 4, 1) := by decide +kernel
theorem dX5_take_82 : decode cX5_take 82 = .ok (.dup2, 1) := by decide +kernel
theorem dX5_take_83 : decode cX5_take 83 = .ok (.iaload, 1) := by decide +kernel
theorem dX5_take_84 : decode cX5_take 84 = .ok (.iconst 1, 1) := by decide +kernel
theorem dX5_take_85 : decode cX5_take 85 = .ok (.iadd, 1) := by decide +kernel
theorem dX5_take_86 : decode cX5_take 86 = .ok (.iastore, 1) := by decide +kernel
theorem dX5_take_87 : decode cX5_take 87 = .ok (.return_, 1) := by decide +kernel
theorem dX5_take_88 : decode cX5_take 88 = .ok (.aload_n 0, 1) := by decide +kernel
theorem dX5_take_89 : decode cX5_take 89 = .ok (.getfield 53, 3) := by decide +kernel
theorem dX5_take_92 : decode cX5_take 92 = .ok (.iload_n 2, 1) := by decide +kernel
theorem dX5_take_93 : decode cX5_take 93 = .ok (.iconst 1, 1) := by decide +kernel
theorem dX5_take_94 : decode cX5_take 94 = .ok (.iastore, 1) := by decide +kernel
theorem dX5_take_95 : decode cX5_take 95 = .ok (.aload_n 0, 1) := by decide +kernel
theorem dX5_take_96 : decode cX5_take 96 = .ok (.getfield 71, 3) := by decide +kernel
theorem dX5_take_99 : decode cX5_take 99 = .ok (.iload_n 2, 1) := by decide +kernel
theorem dX5_take_100 : decode cX5_take 100 = .ok (.aload_n 0, 1) := by decide +kernel
theorem dX5_take_101 : decode cX5_take 101 = .ok (.iload_n 2, 1) := by decide +kernel
theorem dX5_take_102 : decode cX5_take 102 = .ok (.aload_n 0, 1) := by decide +kernel
theorem dX5_take_103 : decode cX5_take 103 = .ok (.getfield 13, 3) := by decide +kernel
theorem dX5_take_106 : decode cX5_take 106 = .ok (.iload_n 2, 1) := by decide +kernel
theorem dX5_take_107 : decode cX5_take 107 = .ok (.iaload, 1) := by decide +kernel
theorem dX5_take_108 : decode cX5_take 108 = .ok (.invokevirtual 128, 3) := by decide +kernel
theorem dX5_take_111 : decode cX5_take 111 = .ok (.lastore, 1) := by decide +kernel
theorem dX5_take_112 : decode cX5_take 112 = .ok (.aload_n 0, 1) := by decide +kernel
theorem dX5_take_113 : decode cX5_take 113 = .ok (.getfield 74, 3) := by decide +kernel
theorem dX5_take_116 : decode cX5_take 116 = .ok (.iload_n 2, 1) := by decide +kernel
theorem dX5_take_117 : decode cX5_take 117 = .ok (.aload_n 0, 1) := by decide +kernel
theorem dX5_take_118 : decode cX5_take 118 = .ok (.iload_n 2, 1) := by decide +kernel
theorem dX5_take_119 : decode cX5_take 119 = .ok (.aload_n 0, 1) := by decide +kernel
theorem dX5_take_120 : decode cX5_take 120 = .ok (.getfield 16, 3) := by decide +kernel
theorem dX5_take_123 : decode cX5_take 123 = .ok (.iload_n 2, 1) := by decide +kernel
theorem dX5_take_124 : decode cX5_take 124 = .ok (.iaload, 1) := by decide +kernel
theorem dX5_take_125 : decode cX5_take 125 = .ok (.invokevirtual 128, 3) := by decide +kernel
theorem dX5_take_128 : decode cX5_take 128 = .ok (.lastore, 1) := by decide +kernel
theorem dX5_take_129 : decode cX5_take 129 = .ok (.aload_n 0, 1) := by decide +kernel
theorem dX5_take_130 : decode cX5_take 130 = .ok (.getfield 93, 3) := by decide +kernel
theorem dX5_take_133 : decode cX5_take 133 = .ok (.iload_n 1, 1) := by decide +kernel
theorem dX5_take_134 : decode cX5_take 134 = .ok (.iload_n 2, 1) := by decide +kernel
theorem dX5_take_135 : decode cX5_take 135 = .ok (.iastore, 1) := by decide +kernel
theorem dX5_take_136 : decode cX5_take 136 = .ok (.aload_n 0, 1) := by decide +kernel
theorem dX5_take_137 : decode cX5_take 137 = .ok (.getfield 96, 3) := by decide +kernel
theorem dX5_take_140 : decode cX5_take 140 = .ok (.iload_n 1, 1) := by decide +kernel
theorem dX5_take_141 : decode cX5_take 141 = .ok (.iconst 0, 1) := by decide +kernel
theorem dX5_take_142 : decode cX5_take 142 = .ok (.iastore, 1) := by decide +kernel
theorem dX5_take_143 : decode cX5_take 143 = .ok (.return_, 1) := by decide +kernel
theorem dX5_step_0 : decode cX5_step 0 = .ok (.aload_n 0, 1) := by decide +kernel
theorem dX5_step_1 : decode cX5_step 1 = .ok (.getfield 93, 3) := by decide +kernel
theorem dX5_step_4 : decode cX5_step 4 = .ok (.iload_n 1, 1) := by decide +kernel
theorem dX5_step_5 : decode cX5_step 5 = .ok (.iaload, 1) := by decide +kernel
theorem dX5_step_6 : decode cX5_step 6 = .ok (.istore_n 2, 1) := by decide +kernel
theorem dX5_step_7 : decode cX5_step 7 = .ok (.aload_n 0, 1) := by decide +kernel
theorem dX5_step_8 : decode cX5_step 8 = .ok (.getfield 96, 3) := by decide +kernel
theorem dX5_step_11 : decode cX5_step 11 = .ok (.iload_n 1, 1) := by decide +kernel
theorem dX5_step_12 : decode cX5_step 12 = .ok (.dup2, 1) := by decide +kernel
theorem dX5_step_13 : decode cX5_step 13 = .ok (.iaload, 1) := by decide +kernel
theorem dX5_step_14 : decode cX5_step 14 = .ok (.iconst 1, 1) := by decide +kernel
theorem dX5_step_15 : decode cX5_step 15 = .ok (.iadd, 1) := by decide +kernel
theorem dX5_step_16 : decode cX5_step 16 = .ok (.iastore, 1) := by decide +kernel
theorem dX5_step_17 : decode cX5_step 17 = .ok (.aload_n 0, 1) := by decide +kernel
theorem dX5_step_18 : decode cX5_step 18 = .ok (.getfield 96, 3) := by decide +kernel
theorem dX5_step_21 : decode cX5_step 21 = .ok (.iload_n 1, 1) := by decide +kernel
theorem dX5_step_22 : decode cX5_step 22 = .ok (.iaload, 1) := by decide +kernel
theorem dX5_step_23 : decode cX5_step 23 = .ok (.aload_n 0, 1) := by decide +kernel
theorem dX5_step_24 : decode cX5_step 24 = .ok (.getfield 22, 3) := by decide +kernel
theorem dX5_step_27 : decode cX5_step 27 = .ok (.iload_n 2, 1) := by decide +kernel
theorem dX5_step_28 : decode cX5_step 28 = .ok (.iaload, 1) := by decide +kernel
theorem dX5_step_29 : decode cX5_step 29 = .ok (.if_icmp .ne 29, 3) := by decide +kernel
theorem dX5_step_32 : decode cX5_step 32 = .ok (.aload_n 0, 1) := by decide +kernel
theorem dX5_step_33 : decode cX5_step 33 = .ok (.getfield 53, 3) := by decide +kernel
theorem dX5_step_36 : decode cX5_step 36 = .ok (.iload_n 2, 1) := by decide +kernel
theorem dX5_step_37 : decode cX5_step 37 = .ok (.iconst 2, 1) := by decide +kernel
theorem dX5_step_38 : decode cX5_step 38 = .ok (.iastore, 1) := by decide +kernel
theorem dX5_step_39 : decode cX5_step 39 = .ok (.aload_n 0, 1) := by decide +kernel
theorem dX5_step_40 : decode cX5_step 40 = .ok (.getfield 65, 3) := by decide +kernel
theorem dX5_step_43 : decode cX5_step 43 = .ok (.iload_n 2, 1) := by decide +kernel
theorem dX5_step_44 : decode cX5_step 44 = .ok (.iload_n 1, 1) := by decide +kernel
theorem dX5_step_45 : decode cX5_step 45 = .ok (.iastore, 1) := by decide +kernel
theorem dX5_step_46 : decode cX5_step 46 = .ok (.aload_n 0, 1) := by decide +kernel
theorem dX5_step_47 : decode cX5_step 47 = .ok (.getfield 93, 3) := by decide +kernel
theorem dX5_step_50 : decode cX5_step 50 = .ok (.iload_n 1, 1) := by decide +kernel
theorem dX5_step_51 : decode cX5_step 51 = .ok (.iconst (-1), 1) := by decide +kernel
theorem dX5_step_52 : decode cX5_step 52 = .ok (.iastore, 1) := by decide +kernel
theorem dX5_step_53 : decode cX5_step 53 = .ok (.aload_n 0, 1) := by decide +kernel
theorem dX5_step_54 : decode cX5_step 54 = .ok (.iload_n 2, 1) := by decide +kernel
theorem dX5_step_55 : decode cX5_step 55 = .ok (.invokevirtual 132, 3) := by decide +kernel
theorem dX5_step_58 : decode cX5_step 58 = .ok (.return_, 1) := by decide +kernel
theorem dX5_keep_0 : decode cX5_keep 0 = .ok (.iload_n 1, 1) := by decide +kernel
theorem dX5_keep_1 : decode cX5_keep 1 = .ok (.istore 4, 2) := by decide +kernel
theorem dX5_keep_3 : decode cX5_keep 3 = .ok (.iload 4, 2) := by decide +kernel
theorem dX5_keep_5 : decode cX5_keep 5 = .ok (.iload_n 2, 1) := by decide +kernel
theorem dX5_keep_6 : decode cX5_keep 6 = .ok (.if_icmp .ge 251, 3) := by decide +kernel
theorem dX5_keep_9 : decode cX5_keep 9 = .ok (.aload_n 0, 1) := by decide +kernel
theorem dX5_keep_10 : decode cX5_keep 10 = .ok (.getfield 53, 3) := by decide +kernel
theorem dX5_keep_13 : decode cX5_keep 13 = .ok (.iload 4, 2) := by decide +kernel
theorem dX5_keep_15 : decode cX5_keep 15 = .ok (.iaload, 1) := by decide +kernel
theorem dX5_keep_16 : decode cX5_keep 16 = .ok (.iconst 2, 1) := by decide +kernel
theorem dX5_keep_17 : decode cX5_keep 17 = .ok (.if_icmp .ne 240, 3) := by decide +kernel
theorem dX5_keep_20 : decode cX5_keep 20 = .ok (.bipush 8, 2) := by decide +kernel
theorem dX5_keep_22 : decode cX5_keep 22 = .ok (.iload 4, 2) := by decide +kernel
theorem dX5_keep_24 : decode cX5_keep 24 = .ok (.imul, 1) := by decide +kernel
theorem dX5_keep_25 : decode cX5_keep 25 = .ok (.istore 5, 2) := by decide +kernel
theorem dX5_keep_27 : decode cX5_keep 27 = .ok (.aload_n 0, 1) := by decide +kernel
theorem dX5_keep_28 : decode cX5_keep 28 = .ok (.getfield 71, 3) := by decide +kernel
theorem dX5_keep_31 : decode cX5_keep 31 = .ok (.iload 4, 2) := by decide +kernel
theorem dX5_keep_33 : decode cX5_keep 33 = .ok (.laload, 1) := by decide +kernel
theorem dX5_keep_34 : decode cX5_keep 34 = .ok (.aload_n 0, 1) := by decide +kernel
theorem dX5_keep_35 : decode cX5_keep 35 = .ok (.getfield 90, 3) := by decide +kernel
theorem dX5_keep_38 : decode cX5_keep 38 = .ok (.iload 5, 2) := by decide +kernel
theorem dX5_keep_40 : decode cX5_keep 40 = .ok (.aload_n 0, 1) := by decide +kernel
theorem dX5_keep_41 : decode cX5_keep 41 = .ok (.getfield 13, 3) := by decide +kernel
theorem dX5_keep_44 : decode cX5_keep 44 = .ok (.iload 4, 2) := by decide +kernel
theorem dX5_keep_46 : decode cX5_keep 46 = .ok (.iaload, 1) := by decide +kernel
theorem dX5_keep_47 : decode cX5_keep 47 = .ok (.iadd, 1) := by decide +kernel
theorem dX5_keep_48 : decode cX5_keep 48 = .ok (.laload, 1) := by decide +kernel
theorem dX5_keep_49 : decode cX5_keep 49 = .ok (.lcmp, 1) := by decide +kernel
theorem dX5_keep_50 : decode cX5_keep 50 = .ok (.ifCond .ne 29, 3) := by decide +kernel
theorem dX5_keep_53 : decode cX5_keep 53 = .ok (.aload_n 0, 1) := by decide +kernel
theorem dX5_keep_54 : decode cX5_keep 54 = .ok (.getfield 74, 3) := by decide +kernel
theorem dX5_keep_57 : decode cX5_keep 57 = .ok (.iload 4, 2) := by decide +kernel
theorem dX5_keep_59 : decode cX5_keep 59 = .ok (.laload, 1) := by decide +kernel
theorem dX5_keep_60 : decode cX5_keep 60 = .ok (.aload_n 0, 1) := by decide +kernel
theorem dX5_keep_61 : decode cX5_keep 61 = .ok (.getfield 90, 3) := by decide +kernel
theorem dX5_keep_64 : decode cX5_keep 64 = .ok (.iload 5, 2) := by decide +kernel
theorem dX5_keep_66 : decode cX5_keep 66 = .ok (.aload_n 0, 1) := by decide +kernel
theorem dX5_keep_67 : decode cX5_keep 67 = .ok (.getfield 16, 3) := by decide +kernel
theorem dX5_keep_70 : decode cX5_keep 70 = .ok (.iload 4, 2) := by decide +kernel
theorem dX5_keep_72 : decode cX5_keep 72 = .ok (.iaload, 1) := by decide +kernel
theorem dX5_keep_73 : decode cX5_keep 73 = .ok (.iadd, 1) := by decide +kernel
theorem dX5_keep_74 : decode cX5_keep 74 = .ok (.laload, 1) := by decide +kernel
theorem dX5_keep_75 : decode cX5_keep 75 = .ok (.lcmp, 1) := by decide +kernel
theorem dX5_keep_76 : decode cX5_keep 76 = .ok (.ifCond .eq 24, 3) := by decide +kernel
theorem dX5_keep_79 : decode cX5_keep 79 = .ok (.aload_n 0, 1) := by decide +kernel
theorem dX5_keep_80 : decode cX5_keep 80 = .ok (.getfield 53, 3) := by decide +kernel
theorem dX5_keep_83 : decode cX5_keep 83 = .ok (.iload 4, 2) := by decide +kernel
theorem dX5_keep_85 : decode cX5_keep 85 = .ok (.iconst 0, 1) := by decide +kernel
theorem dX5_keep_86 : decode cX5_keep 86 = .ok (.iastore, 1) := by decide +kernel
theorem dX5_keep_87 : decode cX5_keep 87 = .ok (.aload_n 0, 1) := by decide +kernel
theorem dX5_keep_88 : decode cX5_keep 88 = .ok (.getfield 50, 3) := by decide +kernel
theorem dX5_keep_91 : decode cX5_keep 91 = .ok (.iconst 3, 1) := by decide +kernel
theorem dX5_keep_92 : decode cX5_keep 92 = .ok (.dup2, 1) := by decide +kernel
theorem dX5_keep_93 : decode cX5_keep 93 = .ok (.iaload, 1) := by decide +kernel
theorem dX5_keep_94 : decode cX5_keep 94 = .ok (.iconst 1, 1) := by decide +kernel
theorem dX5_keep_95 : decode cX5_keep 95 = .ok (.iadd, 1) := by decide +kernel
theorem dX5_keep_96 : decode cX5_keep 96 = .ok (.iastore, 1) := by decide +kernel
theorem dX5_keep_97 : decode cX5_keep 97 = .ok (.iload 4, 2) := by decide +kernel
theorem dX5_keep_99 : decode cX5_keep 99 = .ok (.ireturn, 1) := by decide +kernel
theorem dX5_keep_100 : decode cX5_keep 100 = .ok (.iconst 0, 1) := by decide +kernel
theorem dX5_keep_101 : decode cX5_keep 101 = .ok (.istore 6, 2) := by decide +kernel
theorem dX5_keep_103 : decode cX5_keep 103 = .ok (.iload 6, 2) := by decide +kernel
theorem dX5_keep_105 : decode cX5_keep 105 = .ok (.bipush 8, 2) := by decide +kernel
theorem dX5_keep_107 : decode cX5_keep 107 = .ok (.if_icmp .ge 32, 3) := by decide +kernel
theorem dX5_keep_110 : decode cX5_keep 110 = .ok (.aload_n 0, 1) := by decide +kernel
theorem dX5_keep_111 : decode cX5_keep 111 = .ok (.getfield 90, 3) := by decide +kernel
theorem dX5_keep_114 : decode cX5_keep 114 = .ok (.iload 5, 2) := by decide +kernel
theorem dX5_keep_116 : decode cX5_keep 116 = .ok (.bipush 8, 2) := by decide +kernel
theorem dX5_keep_118 : decode cX5_keep 118 = .ok (.iadd, 1) := by decide +kernel
theorem dX5_keep_119 : decode cX5_keep 119 = .ok (.iload 6, 2) := by decide +kernel
theorem dX5_keep_121 : decode cX5_keep 121 = .ok (.iadd, 1) := by decide +kernel
theorem dX5_keep_122 : decode cX5_keep 122 = .ok (.aload_n 0, 1) := by decide +kernel
theorem dX5_keep_123 : decode cX5_keep 123 = .ok (.getfield 90, 3) := by decide +kernel
theorem dX5_keep_126 : decode cX5_keep 126 = .ok (.iload 5, 2) := by decide +kernel
theorem dX5_keep_128 : decode cX5_keep 128 = .ok (.iload 6, 2) := by decide +kernel
theorem dX5_keep_130 : decode cX5_keep 130 = .ok (.iadd, 1) := by decide +kernel
theorem dX5_keep_131 : decode cX5_keep 131 = .ok (.laload, 1) := by decide +kernel
theorem dX5_keep_132 : decode cX5_keep 132 = .ok (.lastore, 1) := by decide +kernel
theorem dX5_keep_133 : decode cX5_keep 133 = .ok (.iinc 6 1, 3) := by decide +kernel
theorem dX5_keep_136 : decode cX5_keep 136 = .ok (.goto (-33), 3) := by decide +kernel
theorem dX5_keep_139 : decode cX5_keep 139 = .ok (.aload_n 0, 1) := by decide +kernel
theorem dX5_keep_140 : decode cX5_keep 140 = .ok (.getfield 77, 3) := by decide +kernel
theorem dX5_keep_143 : decode cX5_keep 143 = .ok (.iload 4, 2) := by decide +kernel
