theorem dX12_within_0 : decode cX12_within 0 = .ok (.iload_n 0, 1) := by decide +kernel
theorem dX12_within_1 : decode cX12_within 1 = .ok (.iload_n 1, 1) := by decide +kernel
theorem dX12_within_2 : decode cX12_within 2 = .ok (.if_icmp .ge 7, 3) := by decide +kernel
theorem dX12_within_5 : decode cX12_within 5 = .ok (.iload_n 1, 1) := by decide +kernel
theorem dX12_within_6 : decode cX12_within 6 = .ok (.goto 13, 3) := by decide +kernel
theorem dX12_within_9 : decode cX12_within 9 = .ok (.iload_n 0, 1) := by decide +kernel
theorem dX12_within_10 : decode cX12_within 10 = .ok (.iload_n 2, 1) := by decide +kernel
theorem dX12_within_11 : decode cX12_within 11 = .ok (.if_icmp .le 7, 3) := by decide +kernel
theorem dX12_within_14 : decode cX12_within 14 = .ok (.iload_n 2, 1) := by decide +kernel
theorem dX12_within_15 : decode cX12_within 15 = .ok (.goto 4, 3) := by decide +kernel
theorem dX12_within_18 : decode cX12_within 18 = .ok (.iload_n 0, 1) := by decide +kernel
theorem dX12_within_19 : decode cX12_within 19 = .ok (.ireturn, 1) := by decide +kernel
theorem dX12_isPrime_0 : decode cX12_isPrime 0 = .ok (.iload_n 0, 1) := by decide +kernel
theorem dX12_isPrime_1 : decode cX12_isPrime 1 = .ok (.iconst 1, 1) := by decide +kernel
theorem dX12_isPrime_2 : decode cX12_isPrime 2 = .ok (.if_icmp .le 7, 3) := by decide +kernel
theorem dX12_isPrime_5 : decode cX12_isPrime 5 = .ok (.iconst 1, 1) := by decide +kernel
theorem dX12_isPrime_6 : decode cX12_isPrime 6 = .ok (.goto 4, 3) := by decide +kernel
theorem dX12_isPrime_9 : decode cX12_isPrime 9 = .ok (.iconst 0, 1) := by decide +kernel
theorem dX12_isPrime_10 : decode cX12_isPrime 10 = .ok (.istore_n 1, 1) := by decide +kernel
theorem dX12_isPrime_11 : decode cX12_isPrime 11 = .ok (.iconst 2, 1) := by decide +kernel
theorem dX12_isPrime_12 : decode cX12_isPrime 12 = .ok (.istore_n 2, 1) := by decide +kernel
theorem dX12_isPrime_13 : decode cX12_isPrime 13 = .ok (.iload_n 2, 1) := by decide +kernel
theorem dX12_isPrime_14 : decode cX12_isPrime 14 = .ok (.iload_n 2, 1) := by decide +kernel
theorem dX12_isPrime_15 : decode cX12_isPrime 15 = .ok (.imul, 1) := by decide +kernel
theorem dX12_isPrime_16 : decode cX12_isPrime 16 = .ok (.iload_n 0, 1) := by decide +kernel
theorem dX12_isPrime_17 : decode cX12_isPrime 17 = .ok (.if_icmp .gt 25, 3) := by decide +kernel
theorem dX12_isPrime_20 : decode cX12_isPrime 20 = .ok (.iload_n 1, 1) := by decide +kernel
theorem dX12_isPrime_21 : decode cX12_isPrime 21 = .ok (.ifCond .eq 21, 3) := by decide +kernel
theorem dX12_isPrime_24 : decode cX12_isPrime 24 = .ok (.iload_n 0, 1) := by decide +kernel
theorem dX12_isPrime_25 : decode cX12_isPrime 25 = .ok (.iload_n 2, 1) := by decide +kernel
theorem dX12_isPrime_26 : decode cX12_isPrime 26 = .ok (.irem, 1) := by decide +kernel
theorem dX12_isPrime_27 : decode cX12_isPrime 27 = .ok (.ifCond .eq 7, 3) := by decide +kernel
theorem dX12_isPrime_30 : decode cX12_isPrime 30 = .ok (.iconst 1, 1) := by decide +kernel
theorem dX12_isPrime_31 : decode cX12_isPrime 31 = .ok (.goto 4, 3) := by decide +kernel
theorem dX12_isPrime_34 : decode cX12_isPrime 34 = .ok (.iconst 0, 1) := by decide +kernel
theorem dX12_isPrime_35 : decode cX12_isPrime 35 = .ok (.istore_n 1, 1) := by decide +kernel
theorem dX12_isPrime_36 : decode cX12_isPrime 36 = .ok (.iinc 2 1, 3) := by decide +kernel
theorem dX12_isPrime_39 : decode cX12_isPrime 39 = .ok (.goto (-26), 3) := by decide +kernel
theorem dX12_isPrime_42 : decode cX12_isPrime 42 = .ok (.iload_n 1, 1) := by decide +kernel
theorem dX12_isPrime_43 : decode cX12_isPrime 43 = .ok (.ireturn, 1) := by decide +kernel
theorem dX12_init_0 : decode cX12_init 0 = .ok (.aload_n 0, 1) := by decide +kernel
theorem dX12_init_1 : decode cX12_init 1 = .ok (.invokespecial 1, 3) := by decide +kernel
theorem dX12_init_4 : decode cX12_init 4 = .ok (.aload_n 0, 1) := by decide +kernel
theorem dX12_init_5 : decode cX12_init 5 = .ok (.bipush 8, 2) := by decide +kernel
theorem dX12_init_7 : decode cX12_init 7 = .ok (.newarray .int, 2) := by decide +kernel
theorem dX12_init_9 : decode cX12_init 9 = .ok (.putfield 7, 3) := by decide +kernel
theorem dX12_init_12 : decode cX12_init 12 = .ok (.aload_n 0, 1) := by decide +kernel
theorem dX12_init_13 : decode cX12_init 13 = .ok (.bipush 8, 2) := by decide +kernel
theorem dX12_init_15 : decode cX12_init 15 = .ok (.newarray .int, 2) := by decide +kernel
theorem dX12_init_17 : decode cX12_init 17 = .ok (.putfield 13, 3) := by decide +kernel
theorem dX12_init_20 : decode cX12_init 20 = .ok (.aload_n 0, 1) := by decide +kernel
theorem dX12_init_21 : decode cX12_init 21 = .ok (.iconst 4, 1) := by decide +kernel
theorem dX12_init_22 : decode cX12_init 22 = .ok (.newarray .long, 2) := by decide +kernel
theorem dX12_init_24 : decode cX12_init 24 = .ok (.putfield 16, 3) := by decide +kernel
theorem dX12_init_27 : decode cX12_init 27 = .ok (.aload_n 0, 1) := by decide +kernel
theorem dX12_init_28 : decode cX12_init 28 = .ok (.sipush 8192, 3) := by decide +kernel
theorem dX12_init_31 : decode cX12_init 31 = .ok (.newarray .long, 2) := by decide +kernel
theorem dX12_init_33 : decode cX12_init 33 = .ok (.putfield 20, 3) := by decide +kernel
theorem dX12_init_36 : decode cX12_init 36 = .ok (.aload_n 0, 1) := by decide +kernel
theorem dX12_init_37 : decode cX12_init 37 = .ok (.sipush 8192, 3) := by decide +kernel
theorem dX12_init_40 : decode cX12_init 40 = .ok (.newarray .long, 2) := by decide +kernel
theorem dX12_init_42 : decode cX12_init 42 = .ok (.putfield 23, 3) := by decide +kernel
theorem dX12_init_45 : decode cX12_init 45 = .ok (.aload_n 0, 1) := by decide +kernel
theorem dX12_init_46 : decode cX12_init 46 = .ok (.iconst 4, 1) := by decide +kernel
theorem dX12_init_47 : decode cX12_init 47 = .ok (.newarray .int, 2) := by decide +kernel
theorem dX12_init_49 : decode cX12_init 49 = .ok (.putfield 26, 3) := by decide +kernel
theorem dX12_init_52 : decode cX12_init 52 = .ok (.aload_n 0, 1) := by decide +kernel
theorem dX12_init_53 : decode cX12_init 53 = .ok (.iconst 4, 1) := by decide +kernel
theorem dX12_init_54 : decode cX12_init 54 = .ok (.newarray .long, 2) := by decide +kernel
theorem dX12_init_56 : decode cX12_init 56 = .ok (.putfield 29, 3) := by decide +kernel
theorem dX12_init_59 : decode cX12_init 59 = .ok (.aload_n 0, 1) := by decide +kernel
theorem dX12_init_60 : decode cX12_init 60 = .ok (.sipush 256, 3) := by decide +kernel
theorem dX12_init_63 : decode cX12_init 63 = .ok (.newarray .int, 2) := by decide +kernel
theorem dX12_init_65 : decode cX12_init 65 = .ok (.putfield 32, 3) := by decide +kernel
theorem dX12_init_68 : decode cX12_init 68 = .ok (.aload_n 0, 1) := by decide +kernel
theorem dX12_init_69 : decode cX12_init 69 = .ok (.sipush 256, 3) := by decide +kernel
theorem dX12_init_72 : decode cX12_init 72 = .ok (.newarray .long, 2) := by decide +kernel
theorem dX12_init_74 : decode cX12_init 74 = .ok (.putfield 35, 3) := by decide +kernel
theorem dX12_init_77 : decode cX12_init 77 = .ok (.aload_n 0, 1) := by decide +kernel
theorem dX12_init_78 : decode cX12_init 78 = .ok (.iconst 4, 1) := by decide +kernel
theorem dX12_init_79 : decode cX12_init 79 = .ok (.newarray .int, 2) := by decide +kernel
theorem dX12_init_81 : decode cX12_init 81 = .ok (.putfield 38, 3) := by decide +kernel
theorem dX12_init_84 : decode cX12_init 84 = .ok (.aload_n 0, 1) := by decide +kernel
theorem dX12_init_85 : decode cX12_init 85 = .ok (.sipush 256, 3) := by decide +kernel
theorem dX12_init_88 : decode cX12_init 88 = .ok (.newarray .int, 2) := by decide +kernel
theorem dX12_init_90 : decode cX12_init 90 = .ok (.putfield 41, 3) := by decide +kernel
theorem dX12_init_93 : decode cX12_init 93 = .ok (.aload_n 0, 1) := by decide +kernel
theorem dX12_init_94 : decode cX12_init 94 = .ok (.sipush 256, 3) := by decide +kernel
theorem dX12_init_97 : decode cX12_init 97 = .ok (.newarray .long, 2) := by decide +kernel
theorem dX12_init_99 : decode cX12_init 99 = .ok (.putfield 44, 3) := by decide +kernel
theorem dX12_init_102 : decode cX12_init 102 = .ok (.aload_n 0, 1) := by decide +kernel
theorem dX12_init_103 : decode cX12_init 103 = .ok (.sipush 256, 3) := by decide +kernel
theorem dX12_init_106 : decode cX12_init 106 = .ok (.newarray .long, 2) := by decide +kernel
theorem dX12_init_108 : decode cX12_init 108 = .ok (.putfield 47, 3) := by decide +kernel
theorem dX12_init_111 : decode cX12_init 111 = .ok (.aload_n 0, 1) := by decide +kernel
theorem dX12_init_112 : decode cX12_init 112 = .ok (.iconst 4, 1) := by decide +kernel
theorem dX12_init_113 : decode cX12_init 113 = .ok (.newarray .int, 2) := by decide +kernel
theorem dX12_init_115 : decode cX12_init 115 = .ok (.putfield 50, 3) := by decide +kernel
theorem dX12_init_118 : decode cX12_init 118 = .ok (.aload_n 0, 1) := by decide +kernel
theorem dX12_init_119 : decode cX12_init 119 = .ok (.iconst 4, 1) := by decide +kernel
theorem dX12_init_120 : decode cX12_init 120 = .ok (.newarray .boolean, 2) := by decide +kernel
theorem dX12_init_122 : decode cX12_init 122 = .ok (.putfield 53, 3) := by decide +kernel
theorem dX12_init_125 : decode cX12_init 125 = .ok (.aload_n 0, 1) := by decide +kernel
theorem dX12_init_126 : decode cX12_init 126 = .ok (.sipush 1200, 3) := by decide +kernel
theorem dX12_init_129 : decode cX12_init 129 = .ok (.newarray .int, 2) := by decide +kernel
theorem dX12_init_131 : decode cX12_init 131 = .ok (.putfield 57, 3) := by decide +kernel
theorem dX12_init_134 : decode cX12_init 134 = .ok (.aload_n 0, 1) := by decide +kernel
theorem dX12_init_135 : decode cX12_init 135 = .ok (.sipush 1200, 3) := by decide +kernel
theorem dX12_init_138 : decode cX12_init 138 = .ok (.newarray .long, 2) := by decide +kernel
theorem dX12_init_140 : decode cX12_init 140 = .ok (.putfield 60, 3) := by decide +kernel
theorem dX12_init_143 : decode cX12_init 143 = .ok (.aload_n 0, 1) := by decide +kernel
theorem dX12_init_144 : decode cX12_init 144 = .ok (.sipush 300, 3) := by decide +kernel
theorem dX12_init_147 : decode cX12_init 147 = .ok (.newarray .int, 2) := by decide +kernel
theorem dX12_init_149 : decode cX12_init 149 = .ok (.putfield 63, 3) := by decide +kernel
theorem dX12_init_152 : decode cX12_init 152 = .ok (.aload_n 0, 1) := by decide +kernel
theorem dX12_init_153 : decode cX12_init 153 = .ok (.sipush 300, 3) := by decide +kernel
theorem dX12_init_156 : decode cX12_init 156 = .ok (.newarray .long, 2) := by decide +kernel
theorem dX12_init_158 : decode cX12_init 158 = .ok (.putfield 66, 3) := by decide +kernel
theorem dX12_init_161 : decode cX12_init 161 = .ok (.aload_n 0, 1) := by decide +kernel
theorem dX12_init_162 : decode cX12_init 162 = .ok (.sipush 600, 3) := by decide +kernel
theorem dX12_init_165 : decode cX12_init 165 = .ok (.newarray .int, 2) := by decide +kernel
theorem dX12_init_167 : decode cX12_init 167 = .ok (.putfield 69, 3) := by decide +kernel
theorem dX12_init_170 : decode cX12_init 170 = .ok (.aload_n 0, 1) := by decide +kernel
theorem dX12_init_171 : decode cX12_init 171 = .ok (.sipush 600, 3) := by decide +kernel
theorem dX12_init_174 : decode cX12_init 174 = .ok (.newarray .long, 2) := by decide +kernel
theorem dX12_init_176 : decode cX12_init 176 = .ok (.putfield 72, 3) := by decide +kernel
theorem dX12_init_179 : decode cX12_init 179 = .ok (.aload_n 0, 1) := by decide +kernel
theorem dX12_init_180 : decode cX12_init 180 = .ok (.sipush 600, 3) := by decide +kernel
theorem dX12_init_183 : decode cX12_init 183 = .ok (.newarray .long, 2) := by decide +kernel
theorem dX12_init_185 : decode cX12_init 185 = .ok (.putfield 75, 3) := by decide +kernel
theorem dX12_init_188 : decode cX12_init 188 = .ok (.iload_n 1, 1) := by decide +kernel
theorem dX12_init_189 : decode cX12_init 189 = .ok (.iconst 2, 1) := by decide +kernel
theorem dX12_init_190 : decode cX12_init 190 = .ok (.ldc 78, 2) := by decide +kernel
theorem dX12_init_192 : decode cX12_init 192 = .ok (.invokestatic 79, 3) := by decide +kernel
theorem dX12_init_195 : decode cX12_init 195 = .ok (.istore 5, 2) := by decide +kernel
theorem dX12_init_197 : decode cX12_init 197 = .ok (.iload 5, 2) := by decide +kernel
theorem dX12_init_199 : decode cX12_init 199 = .ok (.invokestatic 83, 3) := by decide +kernel
theorem dX12_init_202 : decode cX12_init 202 = .ok (.ifCond .ne 9, 3) := by decide +kernel
theorem dX12_init_205 : decode cX12_init 205 = .ok (.iinc 5 1, 3) := by decide +kernel
theorem dX12_init_208 : decode cX12_init 208 = .ok (.goto (-11), 3) := by decide +kernel
theorem dX12_init_211 : decode cX12_init 211 = .ok (.aload_n 0, 1) := by decide +kernel
theorem dX12_init_212 : decode cX12_init 212 = .ok (.iload 5, 2) := by decide +kernel
theorem dX12_init_214 : decode cX12_init 214 = .ok (.putfield 87, 3) := by decide +kernel
theorem dX12_init_217 : decode cX12_init 217 = .ok (.aload_n 0, 1) := by decide +kernel
theorem dX12_init_218 : decode cX12_init 218 = .ok (.iload_n 2, 1) := by decide +kernel
theorem dX12_init_219 : decode cX12_init 219 = .ok (.iconst 1, 1) := by decide +kernel
theorem dX12_init_220 : decode cX12_init 220 = .ok (.sipush 256, 3) := by decide +kernel
theorem dX12_init_223 : decode cX12_init 223 = .ok (.invokestatic 79, 3) := by decide +kernel
theorem dX12_init_226 : decode cX12_init 226 = .ok (.putfield 91, 3) := by decide +kernel
theorem dX12_init_229 : decode cX12_init 229 = .ok (.aload_n 0, 1) := by decide +kernel
theorem dX12_init_230 : decode cX12_init 230 = .ok (.iload_n 3, 1) := by decide +kernel
theorem dX12_init_231 : decode cX12_init 231 = .ok (.iconst 1, 1) := by decide +kernel
theorem dX12_init_232 : decode cX12_init 232 = .ok (.bipush 8, 2) := by decide +kernel
theorem dX12_init_234 : decode cX12_init 234 = .ok (.invokestatic 79, 3) := by decide +kernel
theorem dX12_init_237 : decode cX12_init 237 = .ok (.putfield 94, 3) := by decide +kernel
theorem dX12_init_240 : decode cX12_init 240 = .ok (.aload_n 0, 1) := by decide +kernel
theorem dX12_init_241 : decode cX12_init 241 = .ok (.iload 4, 2) := by decide +kernel
theorem dX12_init_243 : decode cX12_init 243 = .ok (.iconst 1, 1) := by decide +kernel
theorem dX12_init_244 : decode cX12_init 244 = .ok (.bipush 64, 2) := by decide +kernel
theorem dX12_init_246 : decode cX12_init 246 = .ok (.invokestatic 79, 3) := by decide +kernel
theorem dX12_init_249 : decode cX12_init 249 = .ok (.putfield 97, 3) := by decide +kernel
theorem dX12_init_252 : decode cX12_init 252 = .ok (.iconst 0, 1) := by decide +kernel
theorem dX12_init_253 : decode cX12_init 253 = .ok (.istore 6, 2) := by decide +kernel
theorem dX12_init_255 : decode cX12_init 255 = .ok (.iload 6, 2) := by decide +kernel
theorem dX12_init_257 : decode cX12_init 257 = .ok (.aload_n 0, 1) := by decide +kernel
theorem dX12_init_258 : decode cX12_init 258 = .ok (.getfield 94, 3) := by decide +kernel
theorem dX12_init_261 : decode cX12_init 261 = .ok (.if_icmp .ge 53, 3) := by decide +kernel
theorem dX12_init_264 : decode cX12_init 264 = .ok (.aload_n 0, 1) := by decide +kernel
theorem dX12_init_265 : decode cX12_init 265 = .ok (.getfield 7, 3) := by decide +kernel
theorem dX12_init_268 : decode cX12_init 268 = .ok (.iload 6, 2) := by decide +kernel
theorem dX12_init_270 : decode cX12_init 270 = .ok (.iconst 1, 1) := by decide +kernel
theorem dX12_init_271 : decode cX12_init 271 = .ok (.sipush 7919, 3) := by decide +kernel
theorem dX12_init_274 : decode cX12_init 274 = .ok (.iload 6, 2) := by decide +kernel
theorem dX12_init_276 : decode cX12_init 276 = .ok (.imul, 1) := by decide +kernel
theorem dX12_init_277 : decode cX12_init 277 = .ok (.bipush 13, 2) := by decide +kernel
theorem dX12_init_279 : decode cX12_init 279 = .ok (.iadd, 1) := by decide +kernel
theorem dX12_init_280 : decode cX12_init 280 = .ok (.aload_n 0, 1) := by decide +kernel
theorem dX12_init_281 : decode cX12_init 281 = .ok (.getfield 87, 3) := by decide +kernel
theorem dX12_init_284 : decode cX12_init 284 = .ok (.iconst 1, 1) := by decide +kernel
theorem dX12_init_285 : decode cX12_init 285 = .ok (.isub, 1) := by decide +kernel
theorem dX12_init_286 : decode cX12_init 286 = .ok (.irem, 1) := by decide +kernel
theorem dX12_init_287 : decode cX12_init 287 = .ok (.iadd, 1) := by decide +kernel
theorem dX12_init_288 : decode cX12_init 288 = .ok (.iastore, 1) := by decide +kernel
theorem dX12_init_289 : decode cX12_init 289 = .ok (.aload_n 0, 1) := by decide +kernel
theorem dX12_init_290 : decode cX12_init 290 = .ok (.getfield 13, 3) := by decide +kernel
theorem dX12_init_293 : decode cX12_init 293 = .ok (.iload 6, 2) := by decide +kernel
theorem dX12_init_295 : decode cX12_init 295 = .ok (.ldc 100, 2) := by decide +kernel
theorem dX12_init_297 : decode cX12_init 297 = .ok (.iload 6, 2) := by decide +kernel
theorem dX12_init_299 : decode cX12_init 299 = .ok (.imul, 1) := by decide +kernel
theorem dX12_init_300 : decode cX12_init 300 = .ok (.iconst 5, 1) := by decide +kernel
theorem dX12_init_301 : decode cX12_init 301 = .ok (.iadd, 1) := by decide +kernel
theorem dX12_init_302 : decode cX12_init 302 = .ok (.aload_n 0, 1) := by decide +kernel
theorem dX12_init_303 : decode cX12_init 303 = .ok (.getfield 87, 3) := by decide +kernel
theorem dX12_init_306 : decode cX12_init 306 = .ok (.irem, 1) := by decide +kernel
theorem dX12_init_307 : decode cX12_init 307 = .ok (.iastore, 1) := by decide +kernel
theorem dX12_init_308 : decode cX12_init 308 = .ok (.iinc 6 1, 3) := by decide +kernel
theorem dX12_init_311 : decode cX12_init 311 = .ok (.goto (-56), 3) := by decide +kernel
theorem dX12_init_314 : decode cX12_init 314 = .ok (.return_, 1) := by decide +kernel
theorem dX12_in_0 : decode cX12_in 0 = .ok (.iload_n 0, 1) := by decide +kernel
theorem dX12_in_1 : decode cX12_in 1 = .ok (.iload_n 1, 1) := by decide +kernel
theorem dX12_in_2 : decode cX12_in 2 = .ok (.if_icmp .lt 12, 3) := by decide +kernel
theorem dX12_in_5 : decode cX12_in 5 = .ok (.iload_n 0, 1) := by decide +kernel
theorem dX12_in_6 : decode cX12_in 6 = .ok (.iload_n 2, 1) := by decide +kernel
theorem dX12_in_7 : decode cX12_in 7 = .ok (.if_icmp .gt 7, 3) := by decide +kernel
theorem dX12_in_10 : decode cX12_in 10 = .ok (.iconst 1, 1) := by decide +kernel
theorem dX12_in_11 : decode cX12_in 11 = .ok (.goto 4, 3) := by decide +kernel
theorem dX12_in_14 : decode cX12_in 14 = .ok (.iconst 0, 1) := by decide +kernel
theorem dX12_in_15 : decode cX12_in 15 = .ok (.ireturn, 1) := by decide +kernel
theorem dX12_isStream_0 : decode cX12_isStream 0 = .ok (.iload_n 0, 1) := by decide +kernel
theorem dX12_isStream_1 : decode cX12_isStream 1 = .ok (.iconst 0, 1) := by decide +kernel
theorem dX12_isStream_2 : decode cX12_isStream 2 = .ok (.iconst 3, 1) := by decide +kernel
theorem dX12_isStream_3 : decode cX12_isStream 3 = .ok (.invokestatic 101, 3) := by decide +kernel
theorem dX12_isStream_6 : decode cX12_isStream 6 = .ok (.ireturn, 1) := by decide +kernel
theorem dX12_isKey_0 : decode cX12_isKey 0 = .ok (.iload_n 1, 1) := by decide +kernel
theorem dX12_isKey_1 : decode cX12_isKey 1 = .ok (.iconst 0, 1) := by decide +kernel
theorem dX12_isKey_2 : decode cX12_isKey 2 = .ok (.aload_n 0, 1) := by decide +kernel
theorem dX12_isKey_3 : decode cX12_isKey 3 = .ok (.getfield 87, 3) := by decide +kernel
theorem dX12_isKey_6 : decode cX12_isKey 6 = .ok (.iconst 1, 1) := by decide +kernel
theorem dX12_isKey_7 : decode cX12_isKey 7 = .ok (.isub, 1) := by decide +kernel
theorem dX12_isKey_8 : decode cX12_isKey 8 = .ok (.invokestatic 101, 3) := by decide +kernel
theorem dX12_isKey_11 : decode cX12_isKey 11 = .ok (.ireturn, 1) := by decide +kernel
theorem dX12_size_0 : decode cX12_size 0 = .ok (.iload_n 1, 1) := by decide +kernel
theorem dX12_size_1 : decode cX12_size 1 = .ok (.tableswitch 51 0 3 #[31, 36, 41, 46], 31) := by decide +kernel
theorem dX12_size_32 : decode cX12_size 32 = .ok (.aload_n 0, 1) := by decide +kernel
theorem dX12_size_33 : decode cX12_size 33 = .ok (.getfield 87, 3) := by decide +kernel
theorem dX12_size_36 : decode cX12_size 36 = .ok (.ireturn, 1) := by decide +kernel
theorem dX12_size_37 : decode cX12_size 37 = .ok (.aload_n 0, 1) := by decide +kernel
theorem dX12_size_38 : decode cX12_size 38 = .ok (.getfield 91, 3) := by decide +kernel
theorem dX12_size_41 : decode cX12_size 41 = .ok (.ireturn, 1) := by decide +kernel
theorem dX12_size_42 : decode cX12_size 42 = .ok (.aload_n 0, 1) := by decide +kernel
theorem dX12_size_43 : decode cX12_size 43 = .ok (.getfield 94, 3) := by decide +kernel
theorem dX12_size_46 : decode cX12_size 46 = .ok (.ireturn, 1) := by decide +kernel
theorem dX12_size_47 : decode cX12_size 47 = .ok (.aload_n 0, 1) := by decide +kernel
theorem dX12_size_48 : decode cX12_size 48 = .ok (.getfield 97, 3) := by decide +kernel
theorem dX12_size_51 : decode cX12_size 51 = .ok (.ireturn, 1) := by decide +kernel
theorem dX12_size_52 : decode cX12_size 52 = .ok (.iconst (-1), 1) := by decide +kernel
theorem dX12_size_53 : decode cX12_size 53 = .ok (.ireturn, 1) := by decide +kernel
theorem dX12_pair_0 : decode cX12_pair 0 = .ok (.aload_n 0, 1) := by decide +kernel
theorem dX12_pair_1 : decode cX12_pair 1 = .ok (.getfield 16, 3) := by decide +kernel
theorem dX12_pair_4 : decode cX12_pair 4 = .ok (.iconst 0, 1) := by decide +kernel
theorem dX12_pair_5 : decode cX12_pair 5 = .ok (.laload, 1) := by decide +kernel
theorem dX12_pair_6 : decode cX12_pair 6 = .ok (.lconst 0, 1) := by decide +kernel
theorem dX12_pair_7 : decode cX12_pair 7 = .ok (.lcmp, 1) := by decide +kernel
theorem dX12_pair_8 : decode cX12_pair 8 = .ok (.ifCond .ne 40, 3) := by decide +kernel
theorem dX12_pair_11 : decode cX12_pair 11 = .ok (.aload_n 0, 1) := by decide +kernel
theorem dX12_pair_12 : decode cX12_pair 12 = .ok (.getfield 16, 3) := by decide +kernel
theorem dX12_pair_15 : decode cX12_pair 15 = .ok (.iconst 1, 1) := by decide +kernel
theorem dX12_pair_16 : decode cX12_pair 16 = .ok (.laload, 1) := by decide +kernel
theorem dX12_pair_17 : decode cX12_pair 17 = .ok (.lconst 0, 1) := by decide +kernel
theorem dX12_pair_18 : decode cX12_pair 18 = .ok (.lcmp, 1) := by decide +kernel
theorem dX12_pair_19 : decode cX12_pair 19 = .ok (.ifCond .ne 29, 3) := by decide +kernel
theorem dX12_pair_22 : decode cX12_pair 22 = .ok (.aload_n 0, 1) := by decide +kernel
theorem dX12_pair_23 : decode cX12_pair 23 = .ok (.getfield 16, 3) := by decide +kernel
theorem dX12_pair_26 : decode cX12_pair 26 = .ok (.iconst 2, 1) := by decide +kernel
theorem dX12_pair_27 : decode cX12_pair 27 = .ok (.laload, 1) := by decide +kernel
theorem dX12_pair_28 : decode cX12_pair 28 = .ok (.lconst 0, 1) := by decide +kernel
theorem dX12_pair_29 : decode cX12_pair 29 = .ok (.lcmp, 1) := by decide +kernel
theorem dX12_pair_30 : decode cX12_pair 30 = .ok (.ifCond .ne 18, 3) := by decide +kernel
theorem dX12_pair_33 : decode cX12_pair 33 = .ok (.aload_n 0, 1) := by decide +kernel
theorem dX12_pair_34 : decode cX12_pair 34 = .ok (.getfield 16, 3) := by decide +kernel
theorem dX12_pair_37 : decode cX12_pair 37 = .ok (.iconst 3, 1) := by decide +kernel
theorem dX12_pair_38 : decode cX12_pair 38 = .ok (.laload, 1) := by decide +kernel
theorem dX12_pair_39 : decode cX12_pair 39 = .ok (.lconst 0, 1) := by decide +kernel
theorem dX12_pair_40 : decode cX12_pair 40 = .ok (.lcmp, 1) := by decide +kernel
theorem dX12_pair_41 : decode cX12_pair 41 = .ok (.ifCond .ne 7, 3) := by decide +kernel
theorem dX12_pair_44 : decode cX12_pair 44 = .ok (.iconst 1, 1) := by decide +kernel
theorem dX12_pair_45 : decode cX12_pair 45 = .ok (.goto 4, 3) := by decide +kernel
theorem dX12_pair_48 : decode cX12_pair 48 = .ok (.iconst 0, 1) := by decide +kernel
theorem dX12_pair_49 : decode cX12_pair 49 = .ok (.istore 4, 2) := by decide +kernel
theorem dX12_pair_51 : decode cX12_pair 51 = .ok (.iload_n 1, 1) := by decide +kernel
theorem dX12_pair_52 : decode cX12_pair 52 = .ok (.iconst 0, 1) := by decide +kernel
theorem dX12_pair_53 : decode cX12_pair 53 = .ok (.aload_n 0, 1) := by decide +kernel
theorem dX12_pair_54 : decode cX12_pair 54 = .ok (.getfield 94, 3) := by decide +kernel
theorem dX12_pair_57 : decode cX12_pair 57 = .ok (.iconst 1, 1) := by decide +kernel
theorem dX12_pair_58 : decode cX12_pair 58 = .ok (.isub, 1) := by decide +kernel
theorem dX12_pair_59 : decode cX12_pair 59 = .ok (.invokestatic 101, 3) := by decide +kernel
theorem dX12_pair_62 : decode cX12_pair 62 = .ok (.ifCond .eq 36, 3) := by decide +kernel
theorem dX12_pair_65 : decode cX12_pair 65 = .ok (.iload_n 2, 1) := by decide +kernel
theorem dX12_pair_66 : decode cX12_pair 66 = .ok (.iconst 1, 1) := by decide +kernel
theorem dX12_pair_67 : decode cX12_pair 67 = .ok (.aload_n 0, 1) := by decide +kernel
theorem dX12_pair_68 : decode cX12_pair 68 = .ok (.getfield 87, 3) := by decide +kernel
theorem dX12_pair_71 : decode cX12_pair 71 = .ok (.iconst 1, 1) := by decide +kernel
theorem dX12_pair_72 : decode cX12_pair 72 = .ok (.isub, 1) := by decide +kernel
theorem dX12_pair_73 : decode cX12_pair 73 = .ok (.invokestatic 101, 3) := by decide +kernel
theorem dX12_pair_76 : decode cX12_pair 76 = .ok (.ifCond .eq 22, 3) := by decide +kernel
theorem dX12_pair_79 : decode cX12_pair 79 = .ok (.iload_n 3, 1) := by decide +kernel
theorem dX12_pair_80 : decode cX12_pair 80 = .ok (.iconst 0, 1) := by decide +kernel
theorem dX12_pair_81 : decode cX12_pair 81 = .ok (.aload_n 0, 1) := by decide +kernel
theorem dX12_pair_82 : decode cX12_pair 82 = .ok (.getfield 87, 3) := by decide +kernel
theorem dX12_pair_85 : decode cX12_pair 85 = .ok (.iconst 1, 1) := by decide +kernel
theorem dX12_pair_86 : decode cX12_pair 86 = .ok (.isub, 1) := by decide +kernel
theorem dX12_pair_87 : decode cX12_pair 87 = .ok (.invokestatic 101, 3) := by decide +kernel
theorem dX12_pair_90 : decode cX12_pair 90 = .ok (.ifCond .eq 8, 3) := by decide +kernel
theorem dX12_pair_93 : decode cX12_pair 93 = .ok (.iload 4, 2) := by decide +kernel
theorem dX12_pair_95 : decode cX12_pair 95 = .ok (.ifCond .ne 5, 3) := by decide +kernel
theorem dX12_pair_98 : decode cX12_pair 98 = .ok (.iconst 0, 1) := by decide +kernel
theorem dX12_pair_99 : decode cX12_pair 99 = .ok (.ireturn, 1) := by decide +kernel
theorem dX12_pair_100 : decode cX12_pair 100 = .ok (.aload_n 0, 1) := by decide +kernel
theorem dX12_pair_101 : decode cX12_pair 101 = .ok (.getfield 7, 3) := by decide +kernel
theorem dX12_pair_104 : decode cX12_pair 104 = .ok (.iload_n 1, 1) := by decide +kernel
theorem dX12_pair_105 : decode cX12_pair 105 = .ok (.iload_n 2, 1) := by decide +kernel
theorem dX12_pair_106 : decode cX12_pair 106 = .ok (.iastore, 1) := by decide +kernel
theorem dX12_pair_107 : decode cX12_pair 107 = .ok (.aload_n 0, 1) := by decide +kernel
theorem dX12_pair_108 : decode cX12_pair 108 = .ok (.getfield 13, 3) := by decide +kernel
theorem dX12_pair_111 : decode cX12_pair 111 = .ok (.iload_n 1, 1) := by decide +kernel
theorem dX12_pair_112 : decode cX12_pair 112 = .ok (.iload_n 3, 1) := by decide +kernel
theorem dX12_pair_113 : decode cX12_pair 113 = .ok (.iastore, 1) := by decide +kernel
theorem dX12_pair_114 : decode cX12_pair 114 = .ok (.iconst 1, 1) := by decide +kernel
theorem dX12_pair_115 : decode cX12_pair 115 = .ok (.ireturn, 1) := by decide +kernel
theorem dX12_hashed_0 : decode cX12_hashed 0 = .ok (.iload_n 1, 1) := by decide +kernel
theorem dX12_hashed_1 : decode cX12_hashed 1 = .ok (.i2l, 1) := by decide +kernel
theorem dX12_hashed_2 : decode cX12_hashed 2 = .ok (.iload_n 3, 1) := by decide +kernel
theorem dX12_hashed_3 : decode cX12_hashed 3 = .ok (.i2l, 1) := by decide +kernel
theorem dX12_hashed_4 : decode cX12_hashed 4 = .ok (.lmul, 1) := by decide +kernel
theorem dX12_hashed_5 : decode cX12_hashed 5 = .ok (.iload_n 2, 1) := by decide +kernel
theorem dX12_hashed_6 : decode cX12_hashed 6 = .ok (.i2l, 1) := by decide +kernel
theorem dX12_hashed_7 : decode cX12_hashed 7 = .ok (.ladd, 1) := by decide +kernel
theorem dX12_hashed_8 : decode cX12_hashed 8 = .ok (.aload_n 0, 1) := by decide +kernel
theorem dX12_hashed_9 : decode cX12_hashed 9 = .ok (.getfield 87, 3) := by decide +kernel
theorem dX12_hashed_12 : decode cX12_hashed 12 = .ok (.i2l, 1) := by decide +kernel
theorem dX12_hashed_13 : decode cX12_hashed 13 = .ok (.lrem, 1) := by decide +kernel
theorem dX12_hashed_14 : decode cX12_hashed 14 = .ok (.aload_n 0, 1) := by decide +kernel
theorem dX12_hashed_15 : decode cX12_hashed 15 = .ok (.getfield 91, 3) := by decide +kernel
theorem dX12_hashed_18 : decode cX12_hashed 18 = .ok (.i2l, 1) := by decide +kernel
theorem dX12_hashed_19 : decode cX12_hashed 19 = .ok (.lrem, 1) := by decide +kernel
theorem dX12_hashed_20 : decode cX12_hashed 20 = .ok (.l2i, 1) := by decide +kernel
theorem dX12_hashed_21 : decode cX12_hashed 21 = .ok (.ireturn, 1) := by decide +kernel
theorem dX12_hash_0 : decode cX12_hash 0 = .ok (.iload_n 1, 1) := by decide +kernel
theorem dX12_hash_1 : decode cX12_hash 1 = .ok (.iconst 0, 1) := by decide +kernel
theorem dX12_hash_2 : decode cX12_hash 2 = .ok (.aload_n 0, 1) := by decide +kernel
theorem dX12_hash_3 : decode cX12_hash 3 = .ok (.getfield 94, 3) := by decide +kernel
theorem dX12_hash_6 : decode cX12_hash 6 = .ok (.iconst 1, 1) := by decide +kernel
theorem dX12_hash_7 : decode cX12_hash 7 = .ok (.isub, 1) := by decide +kernel
theorem dX12_hash_8 : decode cX12_hash 8 = .ok (.invokestatic 101, 3) := by decide +kernel
theorem dX12_hash_11 : decode cX12_hash 11 = .ok (.ifCond .eq 31, 3) := by decide +kernel
theorem dX12_hash_14 : decode cX12_hash 14 = .ok (.aload_n 0, 1) := by decide +kernel
theorem dX12_hash_15 : decode cX12_hash 15 = .ok (.iload_n 2, 1) := by decide +kernel
theorem dX12_hash_16 : decode cX12_hash 16 = .ok (.invokevirtual 105, 3) := by decide +kernel
theorem dX12_hash_19 : decode cX12_hash 19 = .ok (.ifCond .eq 23, 3) := by decide +kernel
theorem dX12_hash_22 : decode cX12_hash 22 = .ok (.aload_n 0, 1) := by decide +kernel
theorem dX12_hash_23 : decode cX12_hash 23 = .ok (.aload_n 0, 1) := by decide +kernel
theorem dX12_hash_24 : decode cX12_hash 24 = .ok (.getfield 7, 3) := by decide +kernel
theorem dX12_hash_27 : decode cX12_hash 27 = .ok (.iload_n 1, 1) := by decide +kernel
theorem dX12_hash_28 : decode cX12_hash 28 = .ok (.iaload, 1) := by decide +kernel
theorem dX12_hash_29 : decode cX12_hash 29 = .ok (.aload_n 0, 1) := by decide +kernel
theorem dX12_hash_30 : decode cX12_hash 30 = .ok (.getfield 13, 3) := by decide +kernel
theorem dX12_hash_33 : decode cX12_hash 33 = .ok (.iload_n 1, 1) := by decide +kernel
theorem dX12_hash_34 : decode cX12_hash 34 = .ok (.iaload, 1) := by decide +kernel
theorem dX12_hash_35 : decode cX12_hash 35 = .ok (.iload_n 2, 1) := by decide +kernel
theorem dX12_hash_36 : decode cX12_hash 36 = .ok (.invokevirtual 108, 3) := by decide +kernel
theorem dX12_hash_39 : decode cX12_hash 39 = .ok (.goto 4, 3) := by decide +kernel
theorem dX12_hash_42 : decode cX12_hash 42 = .ok (.iconst (-1), 1) := by decide +kernel
theorem dX12_hash_43 : decode cX12_hash 43 = .ok (.ireturn, 1) := by decide +kernel
theorem dX12_cellOf_0 : decode cX12_cellOf 0 = .ok (.sipush 2048, 3) := by decide +kernel
theorem dX12_cellOf_3 : decode cX12_cellOf 3 = .ok (.iload_n 1, 1) := by decide +kernel
theorem dX12_cellOf_4 : decode cX12_cellOf 4 = .ok (.imul, 1) := by decide +kernel
theorem dX12_cellOf_5 : decode cX12_cellOf 5 = .ok (.sipush 256, 3) := by decide +kernel
theorem dX12_cellOf_8 : decode cX12_cellOf 8 = .ok (.iload_n 2, 1) := by decide +kernel
theorem dX12_cellOf_9 : decode cX12_cellOf 9 = .ok (.imul, 1) := by decide +kernel
theorem dX12_cellOf_10 : decode cX12_cellOf 10 = .ok (.iadd, 1) := by decide +kernel
theorem dX12_cellOf_11 : decode cX12_cellOf 11 = .ok (.aload_n 0, 1) := by decide +kernel
theorem dX12_cellOf_12 : decode cX12_cellOf 12 = .ok (.aload_n 0, 1) := by decide +kernel
theorem dX12_cellOf_13 : decode cX12_cellOf 13 = .ok (.getfield 7, 3) := by decide +kernel
theorem dX12_cellOf_16 : decode cX12_cellOf 16 = .ok (.iload_n 2, 1) := by decide +kernel
theorem dX12_cellOf_17 : decode cX12_cellOf 17 = .ok (.iaload, 1) := by decide +kernel
theorem dX12_cellOf_18 : decode cX12_cellOf 18 = .ok (.aload_n 0, 1) := by decide +kernel
theorem dX12_cellOf_19 : decode cX12_cellOf 19 = .ok (.getfield 13, 3) := by decide +kernel
theorem dX12_cellOf_22 : decode cX12_cellOf 22 = .ok (.iload_n 2, 1) := by decide +kernel
theorem dX12_cellOf_23 : decode cX12_cellOf 23 = .ok (.iaload, 1) := by decide +kernel
theorem dX12_cellOf_24 : decode cX12_cellOf 24 = .ok (.iload_n 3, 1) := by decide +kernel
theorem dX12_cellOf_25 : decode cX12_cellOf 25 = .ok (.invokevirtual 108, 3) := by decide +kernel
theorem dX12_cellOf_28 : decode cX12_cellOf 28 = .ok (.iadd, 1) := by decide +kernel
theorem dX12_cellOf_29 : decode cX12_cellOf 29 = .ok (.ireturn, 1) := by decide +kernel
theorem dX12_leastPlain_0 : decode cX12_leastPlain 0 = .ok (.aload_n 0, 1) := by decide +kernel
theorem dX12_leastPlain_1 : decode cX12_leastPlain 1 = .ok (.getfield 20, 3) := by decide +kernel
theorem dX12_leastPlain_4 : decode cX12_leastPlain 4 = .ok (.aload_n 0, 1) := by decide +kernel
theorem dX12_leastPlain_5 : decode cX12_leastPlain 5 = .ok (.iload_n 1, 1) := by decide +kernel
theorem dX12_leastPlain_6 : decode cX12_leastPlain 6 = .ok (.iconst 0, 1) := by decide +kernel
theorem dX12_leastPlain_7 : decode cX12_leastPlain 7 = .ok (.iload_n 2, 1) := by decide +kernel
theorem dX12_leastPlain_8 : decode cX12_leastPlain 8 = .ok (.invokevirtual 111, 3) := by decide +kernel
theorem dX12_leastPlain_11 : decode cX12_leastPlain 11 = .ok (.laload, 1) := by decide +kernel
theorem dX12_leastPlain_12 : decode cX12_leastPlain 12 = .ok (.lstore_n 3, 1) := by decide +kernel
theorem dX12_leastPlain_13 : decode cX12_leastPlain 13 = .ok (.iconst 1, 1) := by decide +kernel
theorem dX12_leastPlain_14 : decode cX12_leastPlain 14 = .ok (.istore 5, 2) := by decide +kernel
theorem dX12_leastPlain_16 : decode cX12_leastPlain 16 = .ok (.iload 5, 2) := by decide +kernel
theorem dX12_leastPlain_18 : decode cX12_leastPlain 18 = .ok (.aload_n 0, 1) := by decide +kernel
theorem dX12_leastPlain_19 : decode cX12_leastPlain 19 = .ok (.getfield 94, 3) := by decide +kernel
theorem dX12_leastPlain_22 : decode cX12_leastPlain 22 = .ok (.if_icmp .ge 38, 3) := by decide +kernel
theorem dX12_leastPlain_25 : decode cX12_leastPlain 25 = .ok (.aload_n 0, 1) := by decide +kernel
theorem dX12_leastPlain_26 : decode cX12_leastPlain 26 = .ok (.getfield 20, 3) := by decide +kernel
theorem dX12_leastPlain_29 : decode cX12_leastPlain 29 = .ok (.aload_n 0, 1) := by decide +kernel
theorem dX12_leastPlain_30 : decode cX12_leastPlain 30 = .ok (.iload_n 1, 1) := by decide +kernel
theorem dX12_leastPlain_31 : decode cX12_leastPlain 31 = .ok (.iload 5, 2) := by decide +kernel
theorem dX12_leastPlain_33 : decode cX12_leastPlain 33 = .ok (.iload_n 2, 1) := by decide +kernel
theorem dX12_leastPlain_34 : decode cX12_leastPlain 34 = .ok (.invokevirtual 111, 3) := by decide +kernel
theorem dX12_leastPlain_37 : decode cX12_leastPlain 37 = .ok (.laload, 1) := by decide +kernel
theorem dX12_leastPlain_38 : decode cX12_leastPlain 38 = .ok (.lstore 6, 2) := by decide +kernel
theorem dX12_leastPlain_40 : decode cX12_leastPlain 40 = .ok (.lload 6, 2) := by decide +kernel
theorem dX12_leastPlain_42 : decode cX12_leastPlain 42 = .ok (.lload_n 3, 1) := by decide +kernel
theorem dX12_leastPlain_43 : decode cX12_leastPlain 43 = .ok (.lcmp, 1) := by decide +kernel
theorem dX12_leastPlain_44 : decode cX12_leastPlain 44 = .ok (.ifCond .ge 8, 3) := by decide +kernel
theorem dX12_leastPlain_47 : decode cX12_leastPlain 47 = .ok (.lload 6, 2) := by decide +kernel
theorem dX12_leastPlain_49 : decode cX12_leastPlain 49 = .ok (.goto 4, 3) := by decide +kernel
theorem dX12_leastPlain_52 : decode cX12_leastPlain 52 = .ok (.lload_n 3, 1) := by decide +kernel
theorem dX12_leastPlain_53 : decode cX12_leastPlain 53 = .ok (.lstore_n 3, 1) := by decide +kernel
theorem dX12_leastPlain_54 : decode cX12_leastPlain 54 = .ok (.iinc 5 1, 3) := by decide +kernel
theorem dX12_leastPlain_57 : decode cX12_leastPlain 57 = .ok (.goto (-41), 3) := by decide +kernel
theorem dX12_leastPlain_60 : decode cX12_leastPlain 60 = .ok (.lload_n 3, 1) := by decide +kernel
theorem dX12_leastPlain_61 : decode cX12_leastPlain 61 = .ok (.lreturn, 1) := by decide +kernel
theorem dX12_leastCareful_0 : decode cX12_leastCareful 0 = .ok (.aload_n 0, 1) := by decide +kernel
theorem dX12_leastCareful_1 : decode cX12_leastCareful 1 = .ok (.getfield 23, 3) := by decide +kernel
theorem dX12_leastCareful_4 : decode cX12_leastCareful 4 = .ok (.aload_n 0, 1) := by decide +kernel
theorem dX12_leastCareful_5 : decode cX12_leastCareful 5 = .ok (.iload_n 1, 1) := by decide +kernel
theorem dX12_leastCareful_6 : decode cX12_leastCareful 6 = .ok (.iconst 0, 1) := by decide +kernel
theorem dX12_leastCareful_7 : decode cX12_leastCareful 7 = .ok (.iload_n 2, 1) := by decide +kernel
theorem dX12_leastCareful_8 : decode cX12_leastCareful 8 = .ok (.invokevirtual 111, 3) := by decide +kernel
theorem dX12_leastCareful_11 : decode cX12_leastCareful 11 = .ok (.laload, 1) := by decide +kernel
theorem dX12_leastCareful_12 : decode cX12_leastCareful 12 = .ok (.lstore_n 3, 1) := by decide +kernel
theorem dX12_leastCareful_13 : decode cX12_leastCareful 13 = .ok (.iconst 1, 1) := by decide +kernel
theorem dX12_leastCareful_14 : decode cX12_leastCareful 14 = .ok (.istore 5, 2) := by decide +kernel
theorem dX12_leastCareful_16 : decode cX12_leastCareful 16 = .ok (.iload 5, 2) := by decide +kernel
theorem dX12_leastCareful_18 : decode cX12_leastCareful 18 = .ok (.aload_n 0, 1) := by decide +kernel
theorem dX12_leastCareful_19 : decode cX12_leastCareful 19 = .ok (.getfield 94, 3) := by decide +kernel
theorem dX12_leastCareful_22 : decode cX12_leastCareful 22 = .ok (.if_icmp .ge 38, 3) := by decide +kernel
theorem dX12_leastCareful_25 : decode cX12_leastCareful 25 = .ok (.aload_n 0, 1) := by decide +kernel
theorem dX12_leastCareful_26 : decode cX12_leastCareful 26 = .ok (.getfield 23, 3) := by decide +kernel
theorem dX12_leastCareful_29 : decode cX12_leastCareful 29 = .ok (.aload_n 0, 1) := by decide +kernel
theorem dX12_leastCareful_30 : decode cX12_leastCareful 30 = .ok (.iload_n 1, 1) := by decide +kernel
theorem dX12_leastCareful_31 : decode cX12_leastCareful 31 = .ok (.iload 5, 2) := by decide +kernel
theorem dX12_leastCareful_33 : decode cX12_leastCareful 33 = .ok (.iload_n 2, 1) := by decide +kernel
theorem dX12_leastCareful_34 : decode cX12_leastCareful 34 = .ok (.invokevirtual 111, 3) := by decide +kernel
theorem dX12_leastCareful_37 : decode cX12_leastCareful 37 = .ok (.laload, 1) := by decide +kernel
theorem dX12_leastCareful_38 : decode cX12_leastCareful 38 = .ok (.lstore 6, 2) := by decide +kernel
theorem dX12_leastCareful_40 : decode cX12_leastCareful 40 = .ok (.lload 6, 2) := by decide +kernel
theorem dX12_leastCareful_42 : decode cX12_leastCareful 42 = .ok (.lload_n 3, 1) := by decide +kernel
theorem dX12_leastCareful_43 : decode cX12_leastCareful 43 = .ok (.lcmp, 1) := by decide +kernel
theorem dX12_leastCareful_44 : decode cX12_leastCareful 44 = .ok (.ifCond .ge 8, 3) := by decide +kernel
theorem dX12_leastCareful_47 : decode cX12_leastCareful 47 = .ok (.lload 6, 2) := by decide +kernel
theorem dX12_leastCareful_49 : decode cX12_leastCareful 49 = .ok (.goto 4, 3) := by decide +kernel
theorem dX12_leastCareful_52 : decode cX12_leastCareful 52 = .ok (.lload_n 3, 1) := by decide +kernel
theorem dX12_leastCareful_53 : decode cX12_leastCareful 53 = .ok (.lstore_n 3, 1) := by decide +kernel
theorem dX12_leastCareful_54 : decode cX12_leastCareful 54 = .ok (.iinc 5 1, 3) := by decide +kernel
theorem dX12_leastCareful_57 : decode cX12_leastCareful 57 = .ok (.goto (-41), 3) := by decide +kernel
theorem dX12_leastCareful_60 : decode cX12_leastCareful 60 = .ok (.lload_n 3, 1) := by decide +kernel
theorem dX12_leastCareful_61 : decode cX12_leastCareful 61 = .ok (.lreturn, 1) := by decide +kernel
theorem dX12_misraAt_0 : decode cX12_misraAt 0 = .ok (.iconst (-1), 1) := by decide +kernel
theorem dX12_misraAt_1 : decode cX12_misraAt 1 = .ok (.istore_n 3, 1) := by decide +kernel
theorem dX12_misraAt_2 : decode cX12_misraAt 2 = .ok (.bipush 64, 2) := by decide +kernel
theorem dX12_misraAt_4 : decode cX12_misraAt 4 = .ok (.iload_n 1, 1) := by decide +kernel
theorem dX12_misraAt_5 : decode cX12_misraAt 5 = .ok (.imul, 1) := by decide +kernel
theorem dX12_misraAt_6 : decode cX12_misraAt 6 = .ok (.istore 4, 2) := by decide +kernel
theorem dX12_misraAt_8 : decode cX12_misraAt 8 = .ok (.iload 4, 2) := by decide +kernel
theorem dX12_misraAt_10 : decode cX12_misraAt 10 = .ok (.bipush 64, 2) := by decide +kernel
theorem dX12_misraAt_12 : decode cX12_misraAt 12 = .ok (.iload_n 1, 1) := by decide +kernel
theorem dX12_misraAt_13 : decode cX12_misraAt 13 = .ok (.imul, 1) := by decide +kernel
theorem dX12_misraAt_14 : decode cX12_misraAt 14 = .ok (.aload_n 0, 1) := by decide +kernel
theorem dX12_misraAt_15 : decode cX12_misraAt 15 = .ok (.getfield 26, 3) := by decide +kernel
theorem dX12_misraAt_18 : decode cX12_misraAt 18 = .ok (.iload_n 1, 1) := by decide +kernel
theorem dX12_misraAt_19 : decode cX12_misraAt 19 = .ok (.iaload, 1) := by decide +kernel
theorem dX12_misraAt_20 : decode cX12_misraAt 20 = .ok (.iadd, 1) := by decide +kernel
theorem dX12_misraAt_21 : decode cX12_misraAt 21 = .ok (.if_icmp .ge 27, 3) := by decide +kernel
theorem dX12_misraAt_24 : decode cX12_misraAt 24 = .ok (.aload_n 0, 1) := by decide +kernel
theorem dX12_misraAt_25 : decode cX12_misraAt 25 = .ok (.getfield 32, 3) := by decide +kernel
theorem dX12_misraAt_28 : decode cX12_misraAt 28 = .ok (.iload 4, 2) := by decide +kernel
theorem dX12_misraAt_30 : decode cX12_misraAt 30 = .ok (.iaload, 1) := by decide +kernel
theorem dX12_misraAt_31 : decode cX12_misraAt 31 = .ok (.iload_n 2, 1) := by decide +kernel
theorem dX12_misraAt_32 : decode cX12_misraAt 32 = .ok (.if_icmp .ne 8, 3) := by decide +kernel
theorem dX12_misraAt_35 : decode cX12_misraAt 35 = .ok (.iload 4, 2) := by decide +kernel
theorem dX12_misraAt_37 : decode cX12_misraAt 37 = .ok (.goto 4, 3) := by decide +kernel
theorem dX12_misraAt_40 : decode cX12_misraAt 40 = .ok (.iload_n 3, 1) := by decide +kernel
theorem dX12_misraAt_41 : decode cX12_misraAt 41 = .ok (.istore_n 3, 1) := by decide +kernel
theorem dX12_misraAt_42 : decode cX12_misraAt 42 = .ok (.iinc 4 1, 3) := by decide +kernel
theorem dX12_misraAt_45 : decode cX12_misraAt 45 = .ok (.goto (-37), 3) := by decide +kernel
theorem dX12_misraAt_48 : decode cX12_misraAt 48 = .ok (.iload_n 3, 1) := by decide +kernel
theorem dX12_misraAt_49 : decode cX12_misraAt 49 = .ok (.ireturn, 1) := by decide +kernel
theorem dX12_savingAt_0 : decode cX12_savingAt 0 = .ok (.iconst (-1), 1) := by decide +kernel
theorem dX12_savingAt_1 : decode cX12_savingAt 1 = .ok (.istore_n 3, 1) := by decide +kernel
theorem dX12_savingAt_2 : decode cX12_savingAt 2 = .ok (.bipush 64, 2) := by decide +kernel
theorem dX12_savingAt_4 : decode cX12_savingAt 4 = .ok (.iload_n 1, 1) := by decide +kernel
theorem dX12_savingAt_5 : decode cX12_savingAt 5 = .ok (.imul, 1) := by decide +kernel
theorem dX12_savingAt_6 : decode cX12_savingAt 6 = .ok (.istore 4, 2) := by decide +kernel
theorem dX12_savingAt_8 : decode cX12_savingAt 8 = .ok (.iload 4, 2) := by decide +kernel
theorem dX12_savingAt_10 : decode cX12_savingAt 10 = .ok (.bipush 64, 2) := by decide +kernel
theorem dX12_savingAt_12 : decode cX12_savingAt 12 = .ok (.iload_n 1, 1) := by decide +kernel
theorem dX12_savingAt_13 : decode cX12_savingAt 13 = .ok (.imul, 1) := by decide +kernel
theorem dX12_savingAt_14 : decode cX12_savingAt 14 = .ok (.aload_n 0, 1) := by decide +kernel
theorem dX12_savingAt_15 : decode cX12_savingAt 15 = .ok (.getfield 38, 3) := by decide +kernel
theorem dX12_savingAt_18 : decode cX12_savingAt 18 = .ok (.iload_n 1, 1) := by decide +kernel
theorem dX12_savingAt_19 : decode cX12_savingAt 19 = .ok (.iaload, 1) := by decide +kernel
theorem dX12_savingAt_20 : decode cX12_savingAt 20 = .ok (.iadd, 1) := by decide +kernel
theorem dX12_savingAt_21 : decode cX12_savingAt 21 = .ok (.if_icmp .ge 27, 3) := by decide +kernel
theorem dX12_savingAt_24 : decode cX12_savingAt 24 = .ok (.aload_n 0, 1) := by decide +kernel
theorem dX12_savingAt_25 : decode cX12_savingAt 25 = .ok (.getfield 41, 3) := by decide +kernel
theorem dX12_savingAt_28 : decode cX12_savingAt 28 = .ok (.iload 4, 2) := by decide +kernel
theorem dX12_savingAt_30 : decode cX12_savingAt 30 = .ok (.iaload, 1) := by decide +kernel
theorem dX12_savingAt_31 : decode cX12_savingAt 31 = .ok (.iload_n 2, 1) := by decide +kernel
theorem dX12_savingAt_32 : decode cX12_savingAt 32 = .ok (.if_icmp .ne 8, 3) := by decide +kernel
theorem dX12_savingAt_35 : decode cX12_savingAt 35 = .ok (.iload 4, 2) := by decide +kernel
theorem dX12_savingAt_37 : decode cX12_savingAt 37 = .ok (.goto 4, 3) := by decide +kernel
theorem dX12_savingAt_40 : decode cX12_savingAt 40 = .ok (.iload_n 3, 1) := by decide +kernel
theorem dX12_savingAt_41 : decode cX12_savingAt 41 = .ok (.istore_n 3, 1) := by decide +kernel
theorem dX12_savingAt_42 : decode cX12_savingAt 42 = .ok (.iinc 4 1, 3) := by decide +kernel
theorem dX12_savingAt_45 : decode cX12_savingAt 45 = .ok (.goto (-37), 3) := by decide +kernel
theorem dX12_savingAt_48 : decode cX12_savingAt 48 = .ok (.iload_n 3, 1) := by decide +kernel
theorem dX12_savingAt_49 : decode cX12_savingAt 49 = .ok (.ireturn, 1) := by decide +kernel
theorem dX12_keyAt_0 : decode cX12_keyAt 0 = .ok (.iconst (-1), 1) := by decide +kernel
theorem dX12_keyAt_1 : decode cX12_keyAt 1 = .ok (.istore_n 3, 1) := by decide +kernel
theorem dX12_keyAt_2 : decode cX12_keyAt 2 = .ok (.sipush 300, 3) := by decide +kernel
theorem dX12_keyAt_5 : decode cX12_keyAt 5 = .ok (.iload_n 1, 1) := by decide +kernel
theorem dX12_keyAt_6 : decode cX12_keyAt 6 = .ok (.imul, 1) := by decide +kernel
theorem dX12_keyAt_7 : decode cX12_keyAt 7 = .ok (.istore 4, 2) := by decide +kernel
theorem dX12_keyAt_9 : decode cX12_keyAt 9 = .ok (.iload 4, 2) := by decide +kernel
theorem dX12_keyAt_11 : decode cX12_keyAt 11 = .ok (.sipush 300, 3) := by decide +kernel
theorem dX12_keyAt_14 : decode cX12_keyAt 14 = .ok (.iload_n 1, 1) := by decide +kernel
theorem dX12_keyAt_15 : decode cX12_keyAt 15 = .ok (.imul, 1) := by decide +kernel
theorem dX12_keyAt_16 : decode cX12_keyAt 16 = .ok (.aload_n 0, 1) := by decide +kernel
theorem dX12_keyAt_17 : decode cX12_keyAt 17 = .ok (.getfield 50, 3) := by decide +kernel
theorem dX12_keyAt_20 : decode cX12_keyAt 20 = .ok (.iload_n 1, 1) := by decide +kernel
theorem dX12_keyAt_21 : decode cX12_keyAt 21 = .ok (.iaload, 1) := by decide +kernel
theorem dX12_keyAt_22 : decode cX12_keyAt 22 = .ok (.iadd, 1) := by decide +kernel
theorem dX12_keyAt_23 : decode cX12_keyAt 23 = .ok (.if_icmp .ge 27, 3) := by decide +kernel
theorem dX12_keyAt_26 : decode cX12_keyAt 26 = .ok (.aload_n 0, 1) := by decide +kernel
theorem dX12_keyAt_27 : decode cX12_keyAt 27 = .ok (.getfield 57, 3) := by decide +kernel
theorem dX12_keyAt_30 : decode cX12_keyAt 30 = .ok (.iload 4, 2) := by decide +kernel
theorem dX12_keyAt_32 : decode cX12_keyAt 32 = .ok (.iaload, 1) := by decide +kernel
theorem dX12_keyAt_33 : decode cX12_keyAt 33 = .ok (.iload_n 2, 1) := by decide +kernel
theorem dX12_keyAt_34 : decode cX12_keyAt 34 = .ok (.if_icmp .ne 8, 3) := by decide +kernel
theorem dX12_keyAt_37 : decode cX12_keyAt 37 = .ok (.iload 4, 2) := by decide +kernel
theorem dX12_keyAt_39 : decode cX12_keyAt 39 = .ok (.goto 4, 3) := by decide +kernel
theorem dX12_keyAt_42 : decode cX12_keyAt 42 = .ok (.iload_n 3, 1) := by decide +kernel
theorem dX12_keyAt_43 : decode cX12_keyAt 43 = .ok (.istore_n 3, 1) := by decide +kernel
theorem dX12_keyAt_44 : decode cX12_keyAt 44 = .ok (.iinc 4 1, 3) := by decide +kernel
theorem dX12_keyAt_47 : decode cX12_keyAt 47 = .ok (.goto (-38), 3) := by decide +kernel
theorem dX12_keyAt_50 : decode cX12_keyAt 50 = .ok (.iload_n 3, 1) := by decide +kernel
theorem dX12_keyAt_51 : decode cX12_keyAt 51 = .ok (.ireturn, 1) := by decide +kernel
theorem dX12_comes_0 : decode cX12_comes 0 = .ok (.aload_n 0, 1) := by decide +kernel
theorem dX12_comes_1 : decode cX12_comes 1 = .ok (.getfield 16, 3) := by decide +kernel
theorem dX12_comes_4 : decode cX12_comes 4 = .ok (.iload_n 1, 1) := by decide +kernel
theorem dX12_comes_5 : decode cX12_comes 5 = .ok (.dup2, 1) := by decide +kernel
theorem dX12_comes_6 : decode cX12_comes 6 = .ok (.laload, 1) := by decide +kernel
theorem dX12_comes_7 : decode cX12_comes 7 = .ok (.lconst 1, 1) := by decide +kernel
theorem dX12_comes_8 : decode cX12_comes 8 = .ok (.ladd, 1) := by decide +kernel
theorem dX12_comes_9 : decode cX12_comes 9 = .ok (.lastore, 1) := by decide +kernel
theorem dX12_comes_10 : decode cX12_comes 10 = .ok (.aload_n 0, 1) := by decide +kernel
theorem dX12_comes_11 : decode cX12_comes 11 = .ok (.iload_n 1, 1) := by decide +kernel
theorem dX12_comes_12 : decode cX12_comes 12 = .ok (.iload_n 2, 1) := by decide +kernel
theorem dX12_comes_13 : decode cX12_comes 13 = .ok (.invokevirtual 114, 3) := by decide +kernel
theorem dX12_comes_16 : decode cX12_comes 16 = .ok (.lconst 1, 1) := by decide +kernel
theorem dX12_comes_17 : decode cX12_comes 17 = .ok (.ladd, 1) := by decide +kernel
theorem dX12_comes_18 : decode cX12_comes 18 = .ok (.lstore_n 3, 1) := by decide +kernel
theorem dX12_comes_19 : decode cX12_comes 19 = .ok (.iconst 0, 1) := by decide +kernel
theorem dX12_comes_20 : decode cX12_comes 20 = .ok (.istore 5, 2) := by decide +kernel
theorem dX12_comes_22 : decode cX12_comes 22 = .ok (.iload 5, 2) := by decide +kernel
theorem dX12_comes_24 : decode cX12_comes 24 = .ok (.aload_n 0, 1) := by decide +kernel
theorem dX12_comes_25 : decode cX12_comes 25 = .ok (.getfield 94, 3) := by decide +kernel
theorem dX12_comes_28 : decode cX12_comes 28 = .ok (.if_icmp .ge 60, 3) := by decide +kernel
theorem dX12_comes_31 : decode cX12_comes 31 = .ok (.aload_n 0, 1) := by decide +kernel
theorem dX12_comes_32 : decode cX12_comes 32 = .ok (.iload_n 1, 1) := by decide +kernel
theorem dX12_comes_33 : decode cX12_comes 33 = .ok (.iload 5, 2) := by decide +kernel
theorem dX12_comes_35 : decode cX12_comes 35 = .ok (.iload_n 2, 1) := by decide +kernel
theorem dX12_comes_36 : decode cX12_comes 36 = .ok (.invokevirtual 111, 3) := by decide +kernel
theorem dX12_comes_39 : decode cX12_comes 39 = .ok (.istore 6, 2) := by decide +kernel
theorem dX12_comes_41 : decode cX12_comes 41 = .ok (.aload_n 0, 1) := by decide +kernel
theorem dX12_comes_42 : decode cX12_comes 42 = .ok (.getfield 20, 3) := by decide +kernel
theorem dX12_comes_45 : decode cX12_comes 45 = .ok (.iload 6, 2) := by decide +kernel
theorem dX12_comes_47 : decode cX12_comes 47 = .ok (.dup2, 1) := by decide +kernel
theorem dX12_comes_48 : decode cX12_comes 48 = .ok (.laload, 1) := by decide +kernel
theorem dX12_comes_49 : decode cX12_comes 49 = .ok (.lconst 1, 1) := by decide +kernel
theorem dX12_comes_50 : decode cX12_comes 50 = .ok (.ladd, 1) := by decide +kernel
theorem dX12_comes_51 : decode cX12_comes 51 = .ok (.lastore, 1) := by decide +kernel
theorem dX12_comes_52 : decode cX12_comes 52 = .ok (.aload_n 0, 1) := by decide +kernel
theorem dX12_comes_53 : decode cX12_comes 53 = .ok (.getfield 23, 3) := by decide +kernel
theorem dX12_comes_56 : decode cX12_comes 56 = .ok (.iload 6, 2) := by decide +kernel
theorem dX12_comes_58 : decode cX12_comes 58 = .ok (.aload_n 0, 1) := by decide +kernel
theorem dX12_comes_59 : decode cX12_comes 59 = .ok (.getfield 23, 3) := by decide +kernel
theorem dX12_comes_62 : decode cX12_comes 62 = .ok (.iload 6, 2) := by decide +kernel
theorem dX12_comes_64 : decode cX12_comes 64 = .ok (.laload, 1) := by decide +kernel
theorem dX12_comes_65 : decode cX12_comes 65 = .ok (.lload_n 3, 1) := by decide +kernel
theorem dX12_comes_66 : decode cX12_comes 66 = .ok (.lcmp, 1) := by decide +kernel
theorem dX12_comes_67 : decode cX12_comes 67 = .ok (.ifCond .ge 7, 3) := by decide +kernel
theorem dX12_comes_70 : decode cX12_comes 70 = .ok (.lload_n 3, 1) := by decide +kernel
theorem dX12_comes_71 : decode cX12_comes 71 = .ok (.goto 10, 3) := by decide +kernel
theorem dX12_comes_74 : decode cX12_comes 74 = .ok (.aload_n 0, 1) := by decide +kernel
theorem dX12_comes_75 : decode cX12_comes 75 = .ok (.getfield 23, 3) := by decide +kernel
theorem dX12_comes_78 : decode cX12_comes 78 = .ok (.iload 6, 2) := by decide +kernel
theorem dX12_comes_80 : decode cX12_comes 80 = .ok (.laload, 1) := by decide +kernel
theorem dX12_comes_81 : decode cX12_comes 81 = .ok (.lastore, 1) := by decide +kernel
theorem dX12_comes_82 : decode cX12_comes 82 = .ok (.iinc 5 1, 3) := by decide +kernel
theorem dX12_comes_85 : decode cX12_comes 85 = .ok (.goto (-63), 3) := by decide +kernel
theorem dX12_comes_88 : decode cX12_comes 88 = .ok (.aload_n 0, 1) := by decide +kernel
theorem dX12_comes_89 : decode cX12_comes 89 = .ok (.iload_n 1, 1) := by decide +kernel
theorem dX12_comes_90 : decode cX12_comes 90 = .ok (.iload_n 2, 1) := by decide +kernel
theorem dX12_comes_91 : decode cX12_comes 91 = .ok (.invokevirtual 118, 3) := by decide +kernel
theorem dX12_comes_94 : decode cX12_comes 94 = .ok (.aload_n 0, 1) := by decide +kernel
theorem dX12_comes_95 : decode cX12_comes 95 = .ok (.iload_n 1, 1) := by decide +kernel
theorem dX12_comes_96 : decode cX12_comes 96 = .ok (.iload_n 2, 1) := by decide +kernel
theorem dX12_comes_97 : decode cX12_comes 97 = .ok (.invokevirtual 122, 3) := by decide +kernel
theorem dX12_comes_100 : decode cX12_comes 100 = .ok (.aload_n 0, 1) := by decide +kernel
theorem dX12_comes_101 : decode cX12_comes 101 = .ok (.iload_n 1, 1) := by decide +kernel
theorem dX12_comes_102 : decode cX12_comes 102 = .ok (.iload_n 2, 1) := by decide +kernel
theorem dX12_comes_103 : decode cX12_comes 103 = .ok (.lconst 1, 1) := by decide +kernel
theorem dX12_comes_104 : decode cX12_comes 104 = .ok (.invokevirtual 125, 3) := by decide +kernel
theorem dX12_comes_107 : decode cX12_comes 107 = .ok (.return_, 1) := by decide +kernel
theorem dX12_comesMisra_0 : decode cX12_comesMisra 0 = .ok (.aload_n 0, 1) := by decide +kernel
theorem dX12_comesMisra_1 : decode cX12_comesMisra 1 = .ok (.iload_n 1, 1) := by decide +kernel
theorem dX12_comesMisra_2 : decode cX12_comesMisra 2 = .ok (.iload_n 2, 1) := by decide +kernel
theorem dX12_comesMisra_3 : decode cX12_comesMisra 3 = .ok (.invokevirtual 129, 3) := by decide +kernel
theorem dX12_comesMisra_6 : decode cX12_comesMisra 6 = .ok (.istore_n 3, 1) := by decide +kernel
theorem dX12_comesMisra_7 : decode cX12_comesMisra 7 = .ok (.iload_n 3, 1) := by decide +kernel
theorem dX12_comesMisra_8 : decode cX12_comesMisra 8 = .ok (.ifCond .lt 14, 3) := by decide +kernel
theorem dX12_comesMisra_11 : decode cX12_comesMisra 11 = .ok (.aload_n 0, 1) := by decide +kernel
theorem dX12_comesMisra_12 : decode cX12_comesMisra 12 = .ok (.getfield 35, 3) := by decide +kernel
theorem dX12_comesMisra_15 : decode cX12_comesMisra 15 = .ok (.iload_n 3, 1) := by decide +kernel
theorem dX12_comesMisra_16 : decode cX12_comesMisra 16 = .ok (.dup2, 1) := by decide +kernel
theorem dX12_comesMisra_17 : decode cX12_comesMisra 17 = .ok (.laload, 1) := by decide +kernel
theorem dX12_comesMisra_18 : decode cX12_comesMisra 18 = .ok (.lconst 1, 1) := by decide +kernel
theorem dX12_comesMisra_19 : decode cX12_comesMisra 19 = .ok (.ladd, 1) := by decide +kernel
theorem dX12_comesMisra_20 : decode cX12_comesMisra 20 = .ok (.lastore, 1) := by decide +kernel
theorem dX12_comesMisra_21 : decode cX12_comesMisra 21 = .ok (.return_, 1) := by decide +kernel
theorem dX12_comesMisra_22 : decode cX12_comesMisra 22 = .ok (.aload_n 0, 1) := by decide +kernel
theorem dX12_comesMisra_23 : decode cX12_comesMisra 23 = .ok (.getfield 26, 3) := by decide +kernel
theorem dX12_comesMisra_26 : decode cX12_comesMisra 26 = .ok (.iload_n 1, 1) := by decide +kernel
theorem dX12_comesMisra_27 : decode cX12_comesMisra 27 = .ok (.iaload, 1) := by decide +kernel
theorem dX12_comesMisra_28 : decode cX12_comesMisra 28 = .ok (.aload_n 0, 1) := by decide +kernel
theorem dX12_comesMisra_29 : decode cX12_comesMisra 29 = .ok (.getfield 97, 3) := by decide +kernel
theorem dX12_comesMisra_32 : decode cX12_comesMisra 32 = .ok (.if_icmp .ge 48, 3) := by decide +kernel
theorem dX12_comesMisra_35 : decode cX12_comesMisra 35 = .ok (.aload_n 0, 1) := by decide +kernel
theorem dX12_comesMisra_36 : decode cX12_comesMisra 36 = .ok (.getfield 32, 3) := by decide +kernel
theorem dX12_comesMisra_39 : decode cX12_comesMisra 39 = .ok (.bipush 64, 2) := by decide +kernel
theorem dX12_comesMisra_41 : decode cX12_comesMisra 41 = .ok (.iload_n 1, 1) := by decide +kernel
theorem dX12_comesMisra_42 : decode cX12_comesMisra 42 = .ok (.imul, 1) := by decide +kernel
theorem dX12_comesMisra_43 : decode cX12_comesMisra 43 = .ok (.aload_n 0, 1) := by decide +kernel
theorem dX12_comesMisra_44 : decode cX12_comesMisra 44 = .ok (.getfield 26, 3) := by decide +kernel
theorem dX12_comesMisra_47 : decode cX12_comesMisra 47 = .ok (.iload_n 1, 1) := by decide +kernel
theorem dX12_comesMisra_48 : decode cX12_comesMisra 48 = .ok (.iaload, 1) := by decide +kernel
theorem dX12_comesMisra_49 : decode cX12_comesMisra 49 = .ok (.iadd, 1) := by decide +kernel
theorem dX12_comesMisra_50 : decode cX12_comesMisra 50 = .ok (.iload_n 2, 1) := by decide +kernel
theorem dX12_comesMisra_51 : decode cX12_comesMisra 51 = .ok (.iastore, 1) := by decide +kernel
theorem dX12_comesMisra_52 : decode cX12_comesMisra 52 = .ok (.aload_n 0, 1) := by decide +kernel
theorem dX12_comesMisra_53 : decode cX12_comesMisra 53 = .ok (.getfield 35, 3) := by decide +kernel
theorem dX12_comesMisra_56 : decode cX12_comesMisra 56 = .ok (.bipush 64, 2) := by decide +kernel
theorem dX12_comesMisra_58 : decode cX12_comesMisra 58 = .ok (.iload_n 1, 1) := by decide +kernel
theorem dX12_comesMisra_59 : decode cX12_comesMisra 59 = .ok (.imul, 1) := by decide +kernel
theorem dX12_comesMisra_60 : decode cX12_comesMisra 60 = .ok (.aload_n 0, 1) := by decide +kernel
theorem dX12_comesMisra_61 : decode cX12_comesMisra 61 = .ok (.getfield 26, 3) := by decide +kernel
theorem dX12_comesMisra_64 : decode cX12_comesMisra 64 = .ok (.iload_n 1, 1) := by decide +kernel
theorem dX12_comesMisra_65 : decode cX12_comesMisra 65 = .ok (.iaload, 1) := by decide +kernel
theorem dX12_comesMisra_66 : decode cX12_comesMisra 66 = .ok (.iadd, 1) := by decide +kernel
theorem dX12_comesMisra_67 : decode cX12_comesMisra 67 = .ok (.lconst 1, 1) := by decide +kernel
theorem dX12_comesMisra_68 : decode cX12_comesMisra 68 = .ok (.lastore, 1) := by decide +kernel
theorem dX12_comesMisra_69 : decode cX12_comesMisra 69 = .ok (.aload_n 0, 1) := by decide +kernel
theorem dX12_comesMisra_70 : decode cX12_comesMisra 70 = .ok (.getfield 26, 3) := by decide +kernel
theorem dX12_comesMisra_73 : decode cX12_comesMisra 73 = .ok (.iload_n 1, 1) := by decide +kernel
theorem dX12_comesMisra_74 : decode cX12_comesMisra 74 = .ok (.dup2, 1) := by decide +kernel
theorem dX12_comesMisra_75 : decode cX12_comesMisra 75 = .ok (.iaload, 1) := by decide +kernel
theorem dX12_comesMisra_76 : decode cX12_comesMisra 76 = .ok (.iconst 1, 1) := by decide +kernel
theorem dX12_comesMisra_77 : decode cX12_comesMisra 77 = .ok (.iadd, 1) := by decide +kernel
theorem dX12_comesMisra_78 : decode cX12_comesMisra 78 = .ok (.iastore, 1) := by decide +kernel
theorem dX12_comesMisra_79 : decode cX12_comesMisra 79 = .ok (.return_, 1) := by decide +kernel
theorem dX12_comesMisra_80 : decode cX12_comesMisra 80 = .ok (.aload_n 0, 1) := by decide +kernel
theorem dX12_comesMisra_81 : decode cX12_comesMisra 81 = .ok (.iload_n 1, 1) := by decide +kernel
theorem dX12_comesMisra_82 : decode cX12_comesMisra 82 = .ok (.lconst 1, 1) := by decide +kernel
theorem dX12_comesMisra_83 : decode cX12_comesMisra 83 = .ok (.invokevirtual 133, 3) := by decide +kernel
theorem dX12_comesMisra_86 : decode cX12_comesMisra 86 = .ok (.return_, 1) := by decide +kernel
theorem dX12_takes_0 : decode cX12_takes 0 = .ok (.iconst 0, 1) := by decide +kernel
theorem dX12_takes_1 : decode cX12_takes 1 = .ok (.istore 4, 2) := by decide +kernel
theorem dX12_takes_3 : decode cX12_takes 3 = .ok (.bipush 64, 2) := by decide +kernel
theorem dX12_takes_5 : decode cX12_takes 5 = .ok (.iload_n 1, 1) := by decide +kernel
theorem dX12_takes_6 : decode cX12_takes 6 = .ok (.imul, 1) := by decide +kernel
theorem dX12_takes_7 : decode cX12_takes 7 = .ok (.istore 5, 2) := by decide +kernel
theorem dX12_takes_9 : decode cX12_takes 9 = .ok (.iload 5, 2) := by decide +kernel
theorem dX12_takes_11 : decode cX12_takes 11 = .ok (.bipush 64, 2) := by decide +kernel
theorem dX12_takes_13 : decode cX12_takes 13 = .ok (.iload_n 1, 1) := by decide +kernel
theorem dX12_takes_14 : decode cX12_takes 14 = .ok (.imul, 1) := by decide +kernel
theorem dX12_takes_15 : decode cX12_takes 15 = .ok (.aload_n 0, 1) := by decide +kernel
theorem dX12_takes_16 : decode cX12_takes 16 = .ok (.getfield 26, 3) := by decide +kernel
theorem dX12_takes_19 : decode cX12_takes 19 = .ok (.iload_n 1, 1) := by decide +kernel
theorem dX12_takes_20 : decode cX12_takes 20 = .ok (.iaload, 1) := by decide +kernel
theorem dX12_takes_21 : decode cX12_takes 21 = .ok (.iadd, 1) := by decide +kernel
theorem dX12_takes_22 : decode cX12_takes 22 = .ok (.if_icmp .ge 64, 3) := by decide +kernel
theorem dX12_takes_25 : decode cX12_takes 25 = .ok (.aload_n 0, 1) := by decide +kernel
theorem dX12_takes_26 : decode cX12_takes 26 = .ok (.getfield 35, 3) := by decide +kernel
theorem dX12_takes_29 : decode cX12_takes 29 = .ok (.iload 5, 2) := by decide +kernel
theorem dX12_takes_31 : decode cX12_takes 31 = .ok (.laload, 1) := by decide +kernel
theorem dX12_takes_32 : decode cX12_takes 32 = .ok (.lload_n 2, 1) := by decide +kernel
theorem dX12_takes_33 : decode cX12_takes 33 = .ok (.lcmp, 1) := by decide +kernel
theorem dX12_takes_34 : decode cX12_takes 34 = .ok (.ifCond .le 46, 3) := by decide +kernel
theorem dX12_takes_37 : decode cX12_takes 37 = .ok (.aload_n 0, 1) := by decide +kernel
theorem dX12_takes_38 : decode cX12_takes 38 = .ok (.getfield 32, 3) := by decide +kernel
theorem dX12_takes_41 : decode cX12_takes 41 = .ok (.bipush 64, 2) := by decide +kernel
theorem dX12_takes_43 : decode cX12_takes 43 = .ok (.iload_n 1, 1) := by decide +kernel
theorem dX12_takes_44 : decode cX12_takes 44 = .ok (.imul, 1) := by decide +kernel
theorem dX12_takes_45 : decode cX12_takes 45 = .ok (.iload 4, 2) := by decide +kernel
theorem dX12_takes_47 : decode cX12_takes 47 = .ok (.iadd, 1) := by decide +kernel
theorem dX12_takes_48 : decode cX12_takes 48 = .ok (.aload_n 0, 1) := by decide +kernel
theorem dX12_takes_49 : decode cX12_takes 49 = .ok (.getfield 32, 3) := by decide +kernel
theorem dX12_takes_52 : decode cX12_takes 52 = .ok (.iload 5, 2) := by decide +kernel
theorem dX12_takes_54 : decode cX12_takes 54 = .ok (.iaload, 1) := by decide +kernel
theorem dX12_takes_55 : decode cX12_takes 55 = .ok (.iastore, 1) := by decide +kernel
theorem dX12_takes_56 : decode cX12_takes 56 = .ok (.aload_n 0, 1) := by decide +kernel
theorem dX12_takes_57 : decode cX12_takes 57 = .ok (.getfield 35, 3) := by decide +kernel
theorem dX12_takes_60 : decode cX12_takes 60 = .ok (.bipush 64, 2) := by decide +kernel
theorem dX12_takes_62 : decode cX12_takes 62 = .ok (.iload_n 1, 1) := by decide +kernel
theorem dX12_takes_63 : decode cX12_takes 63 = .ok (.imul, 1) := by decide +kernel
theorem dX12_takes_64 : decode cX12_takes 64 = .ok (.iload 4, 2) := by decide +kernel
theorem dX12_takes_66 : decode cX12_takes 66 = .ok (.iadd, 1) := by decide +kernel
theorem dX12_takes_67 : decode cX12_takes 67 = .ok (.aload_n 0, 1) := by decide +kernel
theorem dX12_takes_68 : decode cX12_takes 68 = .ok (.getfield 35, 3) := by decide +kernel
theorem dX12_takes_71 : decode cX12_takes 71 = .ok (.iload 5, 2) := by decide +kernel
theorem dX12_takes_73 : decode cX12_takes 73 = .ok (.laload, 1) := by decide +kernel
theorem dX12_takes_74 : decode cX12_takes 74 = .ok (.lload_n 2, 1) := by decide +kernel
theorem dX12_takes_75 : decode cX12_takes 75 = .ok (.lsub, 1) := by decide +kernel
theorem dX12_takes_76 : decode cX12_takes 76 = .ok (.lastore, 1) := by decide +kernel
theorem dX12_takes_77 : decode cX12_takes 77 = .ok (.iinc 4 1, 3) := by decide +kernel
theorem dX12_takes_80 : decode cX12_takes 80 = .ok (.iinc 5 1, 3) := by decide +kernel
theorem dX12_takes_83 : decode cX12_takes 83 = .ok (.goto (-74), 3) := by decide +kernel
theorem dX12_takes_86 : decode cX12_takes 86 = .ok (.aload_n 0, 1) := by decide +kernel
theorem dX12_takes_87 : decode cX12_takes 87 = .ok (.getfield 26, 3) := by decide +kernel
theorem dX12_takes_90 : decode cX12_takes 90 = .ok (.iload_n 1, 1) := by decide +kernel
theorem dX12_takes_91 : decode cX12_takes 91 = .ok (.iload 4, 2) := by decide +kernel
theorem dX12_takes_93 : decode cX12_takes 93 = .ok (.iastore, 1) := by decide +kernel
theorem dX12_takes_94 : decode cX12_takes 94 = .ok (.aload_n 0, 1) := by decide +kernel
theorem dX12_takes_95 : decode cX12_takes 95 = .ok (.getfield 29, 3) := by decide +kernel
theorem dX12_takes_98 : decode cX12_takes 98 = .ok (.iload_n 1, 1) := by decide +kernel
theorem dX12_takes_99 : decode cX12_takes 99 = .ok (.dup2, 1) := by decide +kernel
theorem dX12_takes_100 : decode cX12_takes 100 = .ok (.laload, 1) := by decide +kernel
theorem dX12_takes_101 : decode cX12_takes 101 = .ok (.lload_n 2, 1) := by decide +kernel
theorem dX12_takes_102 : decode cX12_takes 102 = .ok (.ladd, 1) := by decide +kernel
theorem dX12_takes_103 : decode cX12_takes 103 = .ok (.lastore, 1) := by decide +kernel
theorem dX12_takes_104 : decode cX12_takes 104 = .ok (.return_, 1) := by decide +kernel
theorem dX12_comesSaving_0 : decode cX12_comesSaving 0 = .ok (.aload_n 0, 1) := by decide +kernel
theorem dX12_comesSaving_1 : decode cX12_comesSaving 1 = .ok (.iload_n 1, 1) := by decide +kernel
theorem dX12_comesSaving_2 : decode cX12_comesSaving 2 = .ok (.iload_n 2, 1) := by decide +kernel
theorem dX12_comesSaving_3 : decode cX12_comesSaving 3 = .ok (.invokevirtual 137, 3) := by decide +kernel
theorem dX12_comesSaving_6 : decode cX12_comesSaving 6 = .ok (.istore_n 3, 1) := by decide +kernel
theorem dX12_comesSaving_7 : decode cX12_comesSaving 7 = .ok (.lconst 1, 1) := by decide +kernel
theorem dX12_comesSaving_8 : decode cX12_comesSaving 8 = .ok (.lstore 4, 2) := by decide +kernel
theorem dX12_comesSaving_10 : decode cX12_comesSaving 10 = .ok (.lconst 0, 1) := by decide +kernel
theorem dX12_comesSaving_11 : decode cX12_comesSaving 11 = .ok (.lstore 6, 2) := by decide +kernel
theorem dX12_comesSaving_13 : decode cX12_comesSaving 13 = .ok (.iload_n 3, 1) := by decide +kernel
theorem dX12_comesSaving_14 : decode cX12_comesSaving 14 = .ok (.ifCond .ge 41, 3) := by decide +kernel
theorem dX12_comesSaving_17 : decode cX12_comesSaving 17 = .ok (.aload_n 0, 1) := by decide +kernel
theorem dX12_comesSaving_18 : decode cX12_comesSaving 18 = .ok (.getfield 38, 3) := by decide +kernel
theorem dX12_comesSaving_21 : decode cX12_comesSaving 21 = .ok (.iload_n 1, 1) := by decide +kernel
theorem dX12_comesSaving_22 : decode cX12_comesSaving 22 = .ok (.iaload, 1) := by decide +kernel
theorem dX12_comesSaving_23 : decode cX12_comesSaving 23 = .ok (.aload_n 0, 1) := by decide +kernel
theorem dX12_comesSaving_24 : decode cX12_comesSaving 24 = .ok (.getfield 97, 3) := by decide +kernel
theorem dX12_comesSaving_27 : decode cX12_comesSaving 27 = .ok (.if_icmp .ge 28, 3) := by decide +kernel
theorem dX12_comesSaving_30 : decode cX12_comesSaving 30 = .ok (.bipush 64, 2) := by decide +kernel
theorem dX12_comesSaving_32 : decode cX12_comesSaving 32 = .ok (.iload_n 1, 1) := by decide +kernel
theorem dX12_comesSaving_33 : decode cX12_comesSaving 33 = .ok (.imul, 1) := by decide +kernel
theorem dX12_comesSaving_34 : decode cX12_comesSaving 34 = .ok (.aload_n 0, 1) := by decide +kernel
theorem dX12_comesSaving_35 : decode cX12_comesSaving 35 = .ok (.getfield 38, 3) := by decide +kernel
theorem dX12_comesSaving_38 : decode cX12_comesSaving 38 = .ok (.iload_n 1, 1) := by decide +kernel
theorem dX12_comesSaving_39 : decode cX12_comesSaving 39 = .ok (.iaload, 1) := by decide +kernel
theorem dX12_comesSaving_40 : decode cX12_comesSaving 40 = .ok (.iadd, 1) := by decide +kernel
theorem dX12_comesSaving_41 : decode cX12_comesSaving 41 = .ok (.istore_n 3, 1) := by decide +kernel
theorem dX12_comesSaving_42 : decode cX12_comesSaving 42 = .ok (.aload_n 0, 1) := by decide +kernel
theorem dX12_comesSaving_43 : decode cX12_comesSaving 43 = .ok (.getfield 38, 3) := by decide +kernel
theorem dX12_comesSaving_46 : decode cX12_comesSaving 46 = .ok (.iload_n 1, 1) := by decide +kernel
theorem dX12_comesSaving_47 : decode cX12_comesSaving 47 = .ok (.dup2, 1) := by decide +kernel
theorem dX12_comesSaving_48 : decode cX12_comesSaving 48 = .ok (.iaload, 1) := by decide +kernel
theorem dX12_comesSaving_49 : decode cX12_comesSaving 49 = .ok (.iconst 1, 1) := by decide +kernel
theorem dX12_comesSaving_50 : decode cX12_comesSaving 50 = .ok (.iadd, 1) := by decide +kernel
theorem dX12_comesSaving_51 : decode cX12_comesSaving 51 = .ok (.iastore, 1) := by decide +kernel
theorem dX12_comesSaving_52 : decode cX12_comesSaving 52 = .ok (.goto 51, 3) := by decide +kernel
theorem dX12_comesSaving_55 : decode cX12_comesSaving 55 = .ok (.iload_n 3, 1) := by decide +kernel
theorem dX12_comesSaving_56 : decode cX12_comesSaving 56 = .ok (.ifCond .ge 29, 3) := by decide +kernel
theorem dX12_comesSaving_59 : decode cX12_comesSaving 59 = .ok (.bipush 64, 2) := by decide +kernel
theorem dX12_comesSaving_61 : decode cX12_comesSaving 61 = .ok (.iload_n 1, 1) := by decide +kernel
theorem dX12_comesSaving_62 : decode cX12_comesSaving 62 = .ok (.imul, 1) := by decide +kernel
theorem dX12_comesSaving_63 : decode cX12_comesSaving 63 = .ok (.istore_n 3, 1) := by decide +kernel
theorem dX12_comesSaving_64 : decode cX12_comesSaving 64 = .ok (.aload_n 0, 1) := by decide +kernel
theorem dX12_comesSaving_65 : decode cX12_comesSaving 65 = .ok (.getfield 44, 3) := by decide +kernel
theorem dX12_comesSaving_68 : decode cX12_comesSaving 68 = .ok (.iload_n 3, 1) := by decide +kernel
theorem dX12_comesSaving_69 : decode cX12_comesSaving 69 = .ok (.laload, 1) := by decide +kernel
theorem dX12_comesSaving_70 : decode cX12_comesSaving 70 = .ok (.lstore 6, 2) := by decide +kernel
theorem dX12_comesSaving_72 : decode cX12_comesSaving 72 = .ok (.aload_n 0, 1) := by decide +kernel
theorem dX12_comesSaving_73 : decode cX12_comesSaving 73 = .ok (.getfield 44, 3) := by decide +kernel
theorem dX12_comesSaving_76 : decode cX12_comesSaving 76 = .ok (.iload_n 3, 1) := by decide +kernel
theorem dX12_comesSaving_77 : decode cX12_comesSaving 77 = .ok (.laload, 1) := by decide +kernel
theorem dX12_comesSaving_78 : decode cX12_comesSaving 78 = .ok (.lconst 1, 1) := by decide +kernel
theorem dX12_comesSaving_79 : decode cX12_comesSaving 79 = .ok (.ladd, 1) := by decide +kernel
theorem dX12_comesSaving_80 : decode cX12_comesSaving 80 = .ok (.lstore 4, 2) := by decide +kernel
theorem dX12_comesSaving_82 : decode cX12_comesSaving 82 = .ok (.goto 21, 3) := by decide +kernel
theorem dX12_comesSaving_85 : decode cX12_comesSaving 85 = .ok (.aload_n 0, 1) := by decide +kernel
theorem dX12_comesSaving_86 : decode cX12_comesSaving 86 = .ok (.getfield 47, 3) := by decide +kernel
theorem dX12_comesSaving_89 : decode cX12_comesSaving 89 = .ok (.iload_n 3, 1) := by decide +kernel
theorem dX12_comesSaving_90 : decode cX12_comesSaving 90 = .ok (.laload, 1) := by decide +kernel
theorem dX12_comesSaving_91 : decode cX12_comesSaving 91 = .ok (.lstore 6, 2) := by decide +kernel
theorem dX12_comesSaving_93 : decode cX12_comesSaving 93 = .ok (.aload_n 0, 1) := by decide +kernel
theorem dX12_comesSaving_94 : decode cX12_comesSaving 94 = .ok (.getfield 44, 3) := by decide +kernel
theorem dX12_comesSaving_97 : decode cX12_comesSaving 97 = .ok (.iload_n 3, 1) := by decide +kernel
theorem dX12_comesSaving_98 : decode cX12_comesSaving 98 = .ok (.laload, 1) := by decide +kernel
theorem dX12_comesSaving_99 : decode cX12_comesSaving 99 = .ok (.lconst 1, 1) := by decide +kernel
theorem dX12_comesSaving_100 : decode cX12_comesSaving 100 = .ok (.ladd, 1) := by decide +kernel
theorem dX12_comesSaving_101 : decode cX12_comesSaving 101 = .ok (.lstore 4, 2) := by decide +kernel
theorem dX12_comesSaving_103 : decode cX12_comesSaving 103 = .ok (.iload_n 3, 1) := by decide +kernel
theorem dX12_comesSaving_104 : decode cX12_comesSaving 104 = .ok (.istore 8, 2) := by decide +kernel
theorem dX12_comesSaving_106 : decode cX12_comesSaving 106 = .ok (.iload 8, 2) := by decide +kernel
theorem dX12_comesSaving_108 : decode cX12_comesSaving 108 = .ok (.iconst 1, 1) := by decide +kernel
theorem dX12_comesSaving_109 : decode cX12_comesSaving 109 = .ok (.iadd, 1) := by decide +kernel
theorem dX12_comesSaving_110 : decode cX12_comesSaving 110 = .ok (.bipush 64, 2) := by decide +kernel
theorem dX12_comesSaving_112 : decode cX12_comesSaving 112 = .ok (.iload_n 1, 1) := by decide +kernel
theorem dX12_comesSaving_113 : decode cX12_comesSaving 113 = .ok (.imul, 1) := by decide +kernel
theorem dX12_comesSaving_114 : decode cX12_comesSaving 114 = .ok (.aload_n 0, 1) := by decide +kernel
theorem dX12_comesSaving_115 : decode cX12_comesSaving 115 = .ok (.getfield 38, 3) := by decide +kernel
theorem dX12_comesSaving_118 : decode cX12_comesSaving 118 = .ok (.iload_n 1, 1) := by decide +kernel
theorem dX12_comesSaving_119 : decode cX12_comesSaving 119 = .ok (.iaload, 1) := by decide +kernel
theorem dX12_comesSaving_120 : decode cX12_comesSaving 120 = .ok (.iadd, 1) := by decide +kernel
theorem dX12_comesSaving_121 : decode cX12_comesSaving 121 = .ok (.if_icmp .ge 34, 3) := by decide +kernel
theorem dX12_comesSaving_124 : decode cX12_comesSaving 124 = .ok (.aload_n 0, 1) := by decide +kernel
theorem dX12_comesSaving_125 : decode cX12_comesSaving 125 = .ok (.getfield 44, 3) := by decide +kernel
theorem dX12_comesSaving_128 : decode cX12_comesSaving 128 = .ok (.iload 8, 2) := by decide +kernel
theorem dX12_comesSaving_130 : decode cX12_comesSaving 130 = .ok (.iconst 1, 1) := by decide +kernel
theorem dX12_comesSaving_131 : decode cX12_comesSaving 131 = .ok (.iadd, 1) := by decide +kernel
theorem dX12_comesSaving_132 : decode cX12_comesSaving 132 = .ok (.laload, 1) := by decide +kernel
theorem dX12_comesSaving_133 : decode cX12_comesSaving 133 = .ok (.lload 4, 2) := by decide +kernel
theorem dX12_comesSaving_135 : decode cX12_comesSaving 135 = .ok (.lcmp, 1) := by decide +kernel
theorem dX12_comesSaving_136 : decode cX12_comesSaving 136 = .ok (.ifCond .gt 19, 3) := by decide +kernel
theorem dX12_comesSaving_139 : decode cX12_comesSaving 139 = .ok (.aload_n 0, 1) := by decide +kernel
theorem dX12_comesSaving_140 : decode cX12_comesSaving 140 = .ok (.iload 8, 2) := by decide +kernel
theorem dX12_comesSaving_142 : decode cX12_comesSaving 142 = .ok (.iconst 1, 1) := by decide +kernel
theorem dX12_comesSaving_143 : decode cX12_comesSaving 143 = .ok (.iadd, 1) := by decide +kernel
theorem dX12_comesSaving_144 : decode cX12_comesSaving 144 = .ok (.iload 8, 2) := by decide +kernel
theorem dX12_comesSaving_146 : decode cX12_comesSaving 146 = .ok (.invokevirtual 140, 3) := by decide +kernel
theorem dX12_comesSaving_149 : decode cX12_comesSaving 149 = .ok (.iinc 8 1, 3) := by decide +kernel
theorem dX12_comesSaving_152 : decode cX12_comesSaving 152 = .ok (.goto (-46), 3) := by decide +kernel
theorem dX12_comesSaving_155 : decode cX12_comesSaving 155 = .ok (.iload 8, 2) := by decide +kernel
theorem dX12_comesSaving_157 : decode cX12_comesSaving 157 = .ok (.bipush 64, 2) := by decide +kernel
theorem dX12_comesSaving_159 : decode cX12_comesSaving 159 = .ok (.iload_n 1, 1) := by decide +kernel
theorem dX12_comesSaving_160 : decode cX12_comesSaving 160 = .ok (.imul, 1) := by decide +kernel
theorem dX12_comesSaving_161 : decode cX12_comesSaving 161 = .ok (.if_icmp .le 34, 3) := by decide +kernel
theorem dX12_comesSaving_164 : decode cX12_comesSaving 164 = .ok (.aload_n 0, 1) := by decide +kernel
theorem dX12_comesSaving_165 : decode cX12_comesSaving 165 = .ok (.getfield 44, 3) := by decide +kernel
theorem dX12_comesSaving_168 : decode cX12_comesSaving 168 = .ok (.iload 8, 2) := by decide +kernel
theorem dX12_comesSaving_170 : decode cX12_comesSaving 170 = .ok (.iconst 1, 1) := by decide +kernel
theorem dX12_comesSaving_171 : decode cX12_comesSaving 171 = .ok (.isub, 1) := by decide +kernel
theorem dX12_comesSaving_172 : decode cX12_comesSaving 172 = .ok (.laload, 1) := by decide +kernel
theorem dX12_comesSaving_173 : decode cX12_comesSaving 173 = .ok (.lload 4, 2) := by decide +kernel
theorem dX12_comesSaving_175 : decode cX12_comesSaving 175 = .ok (.lcmp, 1) := by decide +kernel
theorem dX12_comesSaving_176 : decode cX12_comesSaving 176 = .ok (.ifCond .le 19, 3) := by decide +kernel
theorem dX12_comesSaving_179 : decode cX12_comesSaving 179 = .ok (.aload_n 0, 1) := by decide +kernel
theorem dX12_comesSaving_180 : decode cX12_comesSaving 180 = .ok (.iload 8, 2) := by decide +kernel
theorem dX12_comesSaving_182 : decode cX12_comesSaving 182 = .ok (.iconst 1, 1) := by decide +kernel
theorem dX12_comesSaving_183 : decode cX12_comesSaving 183 = .ok (.isub, 1) := by decide +kernel
theorem dX12_comesSaving_184 : decode cX12_comesSaving 184 = .ok (.iload 8, 2) := by decide +kernel
theorem dX12_comesSaving_186 : decode cX12_comesSaving 186 = .ok (.invokevirtual 140, 3) := by decide +kernel
theorem dX12_comesSaving_189 : decode cX12_comesSaving 189 = .ok (.iinc 8 (-1), 3) := by decide +kernel
theorem dX12_comesSaving_192 : decode cX12_comesSaving 192 = .ok (.goto (-37), 3) := by decide +kernel
theorem dX12_comesSaving_195 : decode cX12_comesSaving 195 = .ok (.aload_n 0, 1) := by decide +kernel
theorem dX12_comesSaving_196 : decode cX12_comesSaving 196 = .ok (.getfield 41, 3) := by decide +kernel
theorem dX12_comesSaving_199 : decode cX12_comesSaving 199 = .ok (.iload 8, 2) := by decide +kernel
theorem dX12_comesSaving_201 : decode cX12_comesSaving 201 = .ok (.iload_n 2, 1) := by decide +kernel
theorem dX12_comesSaving_202 : decode cX12_comesSaving 202 = .ok (.iastore, 1) := by decide +kernel
theorem dX12_comesSaving_203 : decode cX12_comesSaving 203 = .ok (.aload_n 0, 1) := by decide +kernel
theorem dX12_comesSaving_204 : decode cX12_comesSaving 204 = .ok (.getfield 44, 3) := by decide +kernel
theorem dX12_comesSaving_207 : decode cX12_comesSaving 207 = .ok (.iload 8, 2) := by decide +kernel
theorem dX12_comesSaving_209 : decode cX12_comesSaving 209 = .ok (.lload 4, 2) := by decide +kernel
theorem dX12_comesSaving_211 : decode cX12_comesSaving 211 = .ok (.lastore, 1) := by decide +kernel
theorem dX12_comesSaving_212 : decode cX12_comesSaving 212 = .ok (.aload_n 0, 1) := by decide +kernel
theorem dX12_comesSaving_213 : decode cX12_comesSaving 213 = .ok (.getfield 47, 3) := by decide +kernel
theorem dX12_comesSaving_216 : decode cX12_comesSaving 216 = .ok (.iload 8, 2) := by decide +kernel
theorem dX12_comesSaving_218 : decode cX12_comesSaving 218 = .ok (.lload 6, 2) := by decide +kernel
theorem dX12_comesSaving_220 : decode cX12_comesSaving 220 = .ok (.lastore, 1) := by decide +kernel
theorem dX12_comesSaving_221 : decode cX12_comesSaving 221 = .ok (.return_, 1) := by decide +kernel
theorem dX12_moveSaving_0 : decode cX12_moveSaving 0 = .ok (.aload_n 0, 1) := by decide +kernel
theorem dX12_moveSaving_1 : decode cX12_moveSaving 1 = .ok (.getfield 41, 3) := by decide +kernel
theorem dX12_moveSaving_4 : decode cX12_moveSaving 4 = .ok (.iload_n 2, 1) := by decide +kernel
theorem dX12_moveSaving_5 : decode cX12_moveSaving 5 = .ok (.aload_n 0, 1) := by decide +kernel
theorem dX12_moveSaving_6 : decode cX12_moveSaving 6 = .ok (.getfield 41, 3) := by decide +kernel
theorem dX12_moveSaving_9 : decode cX12_moveSaving 9 = .ok (.iload_n 1, 1) := by decide +kernel
theorem dX12_moveSaving_10 : decode cX12_moveSaving 10 = .ok (.iaload, 1) := by decide +kernel
theorem dX12_moveSaving_11 : decode cX12_moveSaving 11 = .ok (.iastore, 1) := by decide +kernel
theorem dX12_moveSaving_12 : decode cX12_moveSaving 12 = .ok (.aload_n 0, 1) := by decide +kernel
theorem dX12_moveSaving_13 : decode cX12_moveSaving 13 = .ok (.getfield 44, 3) := by decide +kernel
theorem dX12_moveSaving_16 : decode cX12_moveSaving 16 = .ok (.iload_n 2, 1) := by decide +kernel
theorem dX12_moveSaving_17 : decode cX12_moveSaving 17 = .ok (.aload_n 0, 1) := by decide +kernel
theorem dX12_moveSaving_18 : decode cX12_moveSaving 18 = .ok (.getfield 44, 3) := by decide +kernel
theorem dX12_moveSaving_21 : decode cX12_moveSaving 21 = .ok (.iload_n 1, 1) := by decide +kernel
theorem dX12_moveSaving_22 : decode cX12_moveSaving 22 = .ok (.laload, 1) := by decide +kernel
theorem dX12_moveSaving_23 : decode cX12_moveSaving 23 = .ok (.lastore, 1) := by decide +kernel
theorem dX12_moveSaving_24 : decode cX12_moveSaving 24 = .ok (.aload_n 0, 1) := by decide +kernel
theorem dX12_moveSaving_25 : decode cX12_moveSaving 25 = .ok (.getfield 47, 3) := by decide +kernel
theorem dX12_moveSaving_28 : decode cX12_moveSaving 28 = .ok (.iload_n 2, 1) := by decide +kernel
theorem dX12_moveSaving_29 : decode cX12_moveSaving 29 = .ok (.aload_n 0, 1) := by decide +kernel
theorem dX12_moveSaving_30 : decode cX12_moveSaving 30 = .ok (.getfield 47, 3) := by decide +kernel
theorem dX12_moveSaving_33 : decode cX12_moveSaving 33 = .ok (.iload_n 1, 1) := by decide +kernel
theorem dX12_moveSaving_34 : decode cX12_moveSaving 34 = .ok (.laload, 1) := by decide +kernel
theorem dX12_moveSaving_35 : decode cX12_moveSaving 35 = .ok (.lastore, 1) := by decide +kernel
theorem dX12_moveSaving_36 : decode cX12_moveSaving 36 = .ok (.return_, 1) := by decide +kernel
theorem dX12_comesCounts_0 : decode cX12_comesCounts 0 = .ok (.aload_n 0, 1) := by decide +kernel
theorem dX12_comesCounts_1 : decode cX12_comesCounts 1 = .ok (.getfield 53, 3) := by decide +kernel
theorem dX12_comesCounts_4 : decode cX12_comesCounts 4 = .ok (.iload_n 1, 1) := by decide +kernel
theorem dX12_comesCounts_5 : decode cX12_comesCounts 5 = .ok (.baload, 1) := by decide +kernel
theorem dX12_comesCounts_6 : decode cX12_comesCounts 6 = .ok (.ifCond .eq 4, 3) := by decide +kernel
theorem dX12_comesCounts_9 : decode cX12_comesCounts 9 = .ok (.return_, 1) := by decide +kernel
theorem dX12_comesCounts_10 : decode cX12_comesCounts 10 = .ok (.aload_n 0, 1) := by decide +kernel
theorem dX12_comesCounts_11 : decode cX12_comesCounts 11 = .ok (.iload_n 1, 1) := by decide +kernel
theorem dX12_comesCounts_12 : decode cX12_comesCounts 12 = .ok (.iload_n 2, 1) := by decide +kernel
theorem dX12_comesCounts_13 : decode cX12_comesCounts 13 = .ok (.invokevirtual 143, 3) := by decide +kernel
theorem dX12_comesCounts_16 : decode cX12_comesCounts 16 = .ok (.istore 5, 2) := by decide +kernel
theorem dX12_comesCounts_18 : decode cX12_comesCounts 18 = .ok (.iload 5, 2) := by decide +kernel
theorem dX12_comesCounts_20 : decode cX12_comesCounts 20 = .ok (.ifCond .lt 17, 3) := by decide +kernel
theorem dX12_comesCounts_23 : decode cX12_comesCounts 23 = .ok (.aload_n 0, 1) := by decide +kernel
theorem dX12_comesCounts_24 : decode cX12_comesCounts 24 = .ok (.getfield 60, 3) := by decide +kernel
theorem dX12_comesCounts_27 : decode cX12_comesCounts 27 = .ok (.iload 5, 2) := by decide +kernel
theorem dX12_comesCounts_29 : decode cX12_comesCounts 29 = .ok (.dup2, 1) := by decide +kernel
theorem dX12_comesCounts_30 : decode cX12_comesCounts 30 = .ok (.laload, 1) := by decide +kernel
theorem dX12_comesCounts_31 : decode cX12_comesCounts 31 = .ok (.lload_n 3, 1) := by decide +kernel
theorem dX12_comesCounts_32 : decode cX12_comesCounts 32 = .ok (.ladd, 1) := by decide +kernel
theorem dX12_comesCounts_33 : decode cX12_comesCounts 33 = .ok (.lastore, 1) := by decide +kernel
theorem dX12_comesCounts_34 : decode cX12_comesCounts 34 = .ok (.goto 71, 3) := by decide +kernel
theorem dX12_comesCounts_37 : decode cX12_comesCounts 37 = .ok (.aload_n 0, 1) := by decide +kernel
theorem dX12_comesCounts_38 : decode cX12_comesCounts 38 = .ok (.getfield 50, 3) := by decide +kernel
theorem dX12_comesCounts_41 : decode cX12_comesCounts 41 = .ok (.iload_n 1, 1) := by decide +kernel
theorem dX12_comesCounts_42 : decode cX12_comesCounts 42 = .ok (.iaload, 1) := by decide +kernel
theorem dX12_comesCounts_43 : decode cX12_comesCounts 43 = .ok (.sipush 300, 3) := by decide +kernel
theorem dX12_comesCounts_46 : decode cX12_comesCounts 46 = .ok (.if_icmp .ne 13, 3) := by decide +kernel
theorem dX12_comesCounts_49 : decode cX12_comesCounts 49 = .ok (.aload_n 0, 1) := by decide +kernel
theorem dX12_comesCounts_50 : decode cX12_comesCounts 50 = .ok (.getfield 53, 3) := by decide +kernel
theorem dX12_comesCounts_53 : decode cX12_comesCounts 53 = .ok (.iload_n 1, 1) := by decide +kernel
theorem dX12_comesCounts_54 : decode cX12_comesCounts 54 = .ok (.iconst 1, 1) := by decide +kernel
theorem dX12_comesCounts_55 : decode cX12_comesCounts 55 = .ok (.bastore, 1) := by decide +kernel
theorem dX12_comesCounts_56 : decode cX12_comesCounts 56 = .ok (.goto 49, 3) := by decide +kernel
theorem dX12_comesCounts_59 : decode cX12_comesCounts 59 = .ok (.aload_n 0, 1) := by decide +kernel
theorem dX12_comesCounts_60 : decode cX12_comesCounts 60 = .ok (.getfield 57, 3) := by decide +kernel
theorem dX12_comesCounts_63 : decode cX12_comesCounts 63 = .ok (.sipush 300, 3) := by decide +kernel
theorem dX12_comesCounts_66 : decode cX12_comesCounts 66 = .ok (.iload_n 1, 1) := by decide +kernel
theorem dX12_comesCounts_67 : decode cX12_comesCounts 67 = .ok (.imul, 1) := by decide +kernel
theorem dX12_comesCounts_68 : decode cX12_comesCounts 68 = .ok (.aload_n 0, 1) := by decide +kernel
theorem dX12_comesCounts_69 : decode cX12_comesCounts 69 = .ok (.getfield 50, 3) := by decide +kernel
theorem dX12_comesCounts_72 : decode cX12_comesCounts 72 = .ok (.iload_n 1, 1) := by decide +kernel
theorem dX12_comesCounts_73 : decode cX12_comesCounts 73 = .ok (.iaload, 1) := by decide +kernel
theorem dX12_comesCounts_74 : decode cX12_comesCounts 74 = .ok (.iadd, 1) := by decide +kernel
theorem dX12_comesCounts_75 : decode cX12_comesCounts 75 = .ok (.iload_n 2, 1) := by decide +kernel
theorem dX12_comesCounts_76 : decode cX12_comesCounts 76 = .ok (.iastore, 1) := by decide +kernel
theorem dX12_comesCounts_77 : decode cX12_comesCounts 77 = .ok (.aload_n 0, 1) := by decide +kernel
theorem dX12_comesCounts_78 : decode cX12_comesCounts 78 = .ok (.getfield 60, 3) := by decide +kernel
theorem dX12_comesCounts_81 : decode cX12_comesCounts 81 = .ok (.sipush 300, 3) := by decide +kernel
theorem dX12_comesCounts_84 : decode cX12_comesCounts 84 = .ok (.iload_n 1, 1) := by decide +kernel
theorem dX12_comesCounts_85 : decode cX12_comesCounts 85 = .ok (.imul, 1) := by decide +kernel
theorem dX12_comesCounts_86 : decode cX12_comesCounts 86 = .ok (.aload_n 0, 1) := by decide +kernel
theorem dX12_comesCounts_87 : decode cX12_comesCounts 87 = .ok (.getfield 50, 3) := by decide +kernel
theorem dX12_comesCounts_90 : decode cX12_comesCounts 90 = .ok (.iload_n 1, 1) := by decide +kernel
theorem dX12_comesCounts_91 : decode cX12_comesCounts 91 = .ok (.iaload, 1) := by decide +kernel
theorem dX12_comesCounts_92 : decode cX12_comesCounts 92 = .ok (.iadd, 1) := by decide +kernel
theorem dX12_comesCounts_93 : decode cX12_comesCounts 93 = .ok (.lload_n 3, 1) := by decide +kernel
theorem dX12_comesCounts_94 : decode cX12_comesCounts 94 = .ok (.lastore, 1) := by decide +kernel
theorem dX12_comesCounts_95 : decode cX12_comesCounts 95 = .ok (.aload_n 0, 1) := by decide +kernel
theorem dX12_comesCounts_96 : decode cX12_comesCounts 96 = .ok (.getfield 50, 3) := by decide +kernel
theorem dX12_comesCounts_99 : decode cX12_comesCounts 99 = .ok (.iload_n 1, 1) := by decide +kernel
theorem dX12_comesCounts_100 : decode cX12_comesCounts 100 = .ok (.dup2, 1) := by decide +kernel
theorem dX12_comesCounts_101 : decode cX12_comesCounts 101 = .ok (.iaload, 1) := by decide +kernel
theorem dX12_comesCounts_102 : decode cX12_comesCounts 102 = .ok (.iconst 1, 1) := by decide +kernel
theorem dX12_comesCounts_103 : decode cX12_comesCounts 103 = .ok (.iadd, 1) := by decide +kernel
theorem dX12_comesCounts_104 : decode cX12_comesCounts 104 = .ok (.iastore, 1) := by decide +kernel
theorem dX12_comesCounts_105 : decode cX12_comesCounts 105 = .ok (.return_, 1) := by decide +kernel
theorem dX12_add_0 : decode cX12_add 0 = .ok (.iload_n 1, 1) := by decide +kernel
theorem dX12_add_1 : decode cX12_add 1 = .ok (.invokestatic 146, 3) := by decide +kernel
theorem dX12_add_4 : decode cX12_add 4 = .ok (.ifCond .eq 38, 3) := by decide +kernel
theorem dX12_add_7 : decode cX12_add 7 = .ok (.aload_n 0, 1) := by decide +kernel
theorem dX12_add_8 : decode cX12_add 8 = .ok (.iload_n 2, 1) := by decide +kernel
theorem dX12_add_9 : decode cX12_add 9 = .ok (.invokevirtual 105, 3) := by decide +kernel
theorem dX12_add_12 : decode cX12_add 12 = .ok (.ifCond .eq 30, 3) := by decide +kernel
theorem dX12_add_15 : decode cX12_add 15 = .ok (.iload_n 3, 1) := by decide +kernel
theorem dX12_add_16 : decode cX12_add 16 = .ok (.iconst 1, 1) := by decide +kernel
theorem dX12_add_17 : decode cX12_add 17 = .ok (.sipush 1000, 3) := by decide +kernel
theorem dX12_add_20 : decode cX12_add 20 = .ok (.invokestatic 101, 3) := by decide +kernel
theorem dX12_add_23 : decode cX12_add 23 = .ok (.ifCond .eq 19, 3) := by decide +kernel
theorem dX12_add_26 : decode cX12_add 26 = .ok (.aload_n 0, 1) := by decide +kernel
theorem dX12_add_27 : decode cX12_add 27 = .ok (.getfield 16, 3) := by decide +kernel
theorem dX12_add_30 : decode cX12_add 30 = .ok (.iload_n 1, 1) := by decide +kernel
theorem dX12_add_31 : decode cX12_add 31 = .ok (.laload, 1) := by decide +kernel
theorem dX12_add_32 : decode cX12_add 32 = .ok (.iload_n 3, 1) := by decide +kernel
theorem dX12_add_33 : decode cX12_add 33 = .ok (.i2l, 1) := by decide +kernel
theorem dX12_add_34 : decode cX12_add 34 = .ok (.ladd, 1) := by decide +kernel
theorem dX12_add_35 : decode cX12_add 35 = .ok (.ldc2_w 149, 3) := by decide +kernel
theorem dX12_add_38 : decode cX12_add 38 = .ok (.lcmp, 1) := by decide +kernel
theorem dX12_add_39 : decode cX12_add 39 = .ok (.ifCond .le 7, 3) := by decide +kernel
theorem dX12_add_42 : decode cX12_add 42 = .ok (.ldc2_w 151, 3) := by decide +kernel
theorem dX12_add_45 : decode cX12_add 45 = .ok (.lreturn, 1) := by decide +kernel
theorem dX12_add_46 : decode cX12_add 46 = .ok (.iconst 0, 1) := by decide +kernel
theorem dX12_add_47 : decode cX12_add 47 = .ok (.istore 4, 2) := by decide +kernel
theorem dX12_add_49 : decode cX12_add 49 = .ok (.iload 4, 2) := by decide +kernel
theorem dX12_add_51 : decode cX12_add 51 = .ok (.iload_n 3, 1) := by decide +kernel
theorem dX12_add_52 : decode cX12_add 52 = .ok (.if_icmp .ge 15, 3) := by decide +kernel
theorem dX12_add_55 : decode cX12_add 55 = .ok (.aload_n 0, 1) := by decide +kernel
theorem dX12_add_56 : decode cX12_add 56 = .ok (.iload_n 1, 1) := by decide +kernel
theorem dX12_add_57 : decode cX12_add 57 = .ok (.iload_n 2, 1) := by decide +kernel
theorem dX12_add_58 : decode cX12_add 58 = .ok (.invokevirtual 153, 3) := by decide +kernel
theorem dX12_add_61 : decode cX12_add 61 = .ok (.iinc 4 1, 3) := by decide +kernel
theorem dX12_add_64 : decode cX12_add 64 = .ok (.goto (-15), 3) := by decide +kernel
theorem dX12_add_67 : decode cX12_add 67 = .ok (.aload_n 0, 1) := by decide +kernel
theorem dX12_add_68 : decode cX12_add 68 = .ok (.getfield 16, 3) := by decide +kernel
theorem dX12_add_71 : decode cX12_add 71 = .ok (.iload_n 1, 1) := by decide +kernel
theorem dX12_add_72 : decode cX12_add 72 = .ok (.laload, 1) := by decide +kernel
theorem dX12_add_73 : decode cX12_add 73 = .ok (.lreturn, 1) := by decide +kernel
theorem dX12_clear_0 : decode cX12_clear 0 = .ok (.iload_n 1, 1) := by decide +kernel
theorem dX12_clear_1 : decode cX12_clear 1 = .ok (.invokestatic 146, 3) := by decide +kernel
theorem dX12_clear_4 : decode cX12_clear 4 = .ok (.ifCond .ne 5, 3) := by decide +kernel
theorem dX12_clear_7 : decode cX12_clear 7 = .ok (.iconst 0, 1) := by decide +kernel
theorem dX12_clear_8 : decode cX12_clear 8 = .ok (.ireturn, 1) := by decide +kernel
theorem dX12_clear_9 : decode cX12_clear 9 = .ok (.aload_n 0, 1) := by decide +kernel
theorem dX12_clear_10 : decode cX12_clear 10 = .ok (.getfield 16, 3) := by decide +kernel
theorem dX12_clear_13 : decode cX12_clear 13 = .ok (.iload_n 1, 1) := by decide +kernel
theorem dX12_clear_14 : decode cX12_clear 14 = .ok (.lconst 0, 1) := by decide +kernel
theorem dX12_clear_15 : decode cX12_clear 15 = .ok (.lastore, 1) := by decide +kernel
theorem dX12_clear_16 : decode cX12_clear 16 = .ok (.sipush 2048, 3) := by decide +kernel
theorem dX12_clear_19 : decode cX12_clear 19 = .ok (.iload_n 1, 1) := by decide +kernel
theorem dX12_clear_20 : decode cX12_clear 20 = .ok (.imul, 1) := by decide +kernel
theorem dX12_clear_21 : decode cX12_clear 21 = .ok (.istore_n 2, 1) := by decide +kernel
theorem dX12_clear_22 : decode cX12_clear 22 = .ok (.iload_n 2, 1) := by decide +kernel
theorem dX12_clear_23 : decode cX12_clear 23 = .ok (.sipush 2048, 3) := by decide +kernel
theorem dX12_clear_26 : decode cX12_clear 26 = .ok (.iload_n 1, 1) := by decide +kernel
theorem dX12_clear_27 : decode cX12_clear 27 = .ok (.imul, 1) := by decide +kernel
theorem dX12_clear_28 : decode cX12_clear 28 = .ok (.sipush 2048, 3) := by decide +kernel
theorem dX12_clear_31 : decode cX12_clear 31 = .ok (.iadd, 1) := by decide +kernel
theorem dX12_clear_32 : decode cX12_clear 32 = .ok (.if_icmp .ge 23, 3) := by decide +kernel
theorem dX12_clear_35 : decode cX12_clear 35 = .ok (.aload_n 0, 1) := by decide +kernel
theorem dX12_clear_36 : decode cX12_clear 36 = .ok (.getfield 20, 3) := by decide +kernel
theorem dX12_clear_39 : decode cX12_clear 39 = .ok (.iload_n 2, 1) := by decide +kernel
theorem dX12_clear_40 : decode cX12_clear 40 = .ok (.lconst 0, 1) := by decide +kernel
theorem dX12_clear_41 : decode cX12_clear 41 = .ok (.lastore, 1) := by decide +kernel
theorem dX12_clear_42 : decode cX12_clear 42 = .ok (.aload_n 0, 1) := by decide +kernel
theorem dX12_clear_43 : decode cX12_clear 43 = .ok (.getfield 23, 3) := by decide +kernel
theorem dX12_clear_46 : decode cX12_clear 46 = .ok (.iload_n 2, 1) := by decide +kernel
theorem dX12_clear_47 : decode cX12_clear 47 = .ok (.lconst 0, 1) := by decide +kernel
theorem dX12_clear_48 : decode cX12_clear 48 = .ok (.lastore, 1) := by decide +kernel
theorem dX12_clear_49 : decode cX12_clear 49 = .ok (.iinc 2 1, 3) := by decide +kernel
theorem dX12_clear_52 : decode cX12_clear 52 = .ok (.goto (-30), 3) := by decide +kernel
theorem dX12_clear_55 : decode cX12_clear 55 = .ok (.aload_n 0, 1) := by decide +kernel
theorem dX12_clear_56 : decode cX12_clear 56 = .ok (.getfield 26, 3) := by decide +kernel
theorem dX12_clear_59 : decode cX12_clear 59 = .ok (.iload_n 1, 1) := by decide +kernel
theorem dX12_clear_60 : decode cX12_clear 60 = .ok (.iconst 0, 1) := by decide +kernel
theorem dX12_clear_61 : decode cX12_clear 61 = .ok (.iastore, 1) := by decide +kernel
theorem dX12_clear_62 : decode cX12_clear 62 = .ok (.aload_n 0, 1) := by decide +kernel
theorem dX12_clear_63 : decode cX12_clear 63 = .ok (.getfield 29, 3) := by decide +kernel
theorem dX12_clear_66 : decode cX12_clear 66 = .ok (.iload_n 1, 1) := by decide +kernel
theorem dX12_clear_67 : decode cX12_clear 67 = .ok (.lconst 0, 1) := by decide +kernel
theorem dX12_clear_68 : decode cX12_clear 68 = .ok (.lastore, 1) := by decide +kernel
theorem dX12_clear_69 : decode cX12_clear 69 = .ok (.aload_n 0, 1) := by decide +kernel
theorem dX12_clear_70 : decode cX12_clear 70 = .ok (.getfield 38, 3) := by decide +kernel
theorem dX12_clear_73 : decode cX12_clear 73 = .ok (.iload_n 1, 1) := by decide +kernel
theorem dX12_clear_74 : decode cX12_clear 74 = .ok (.iconst 0, 1) := by decide +kernel
theorem dX12_clear_75 : decode cX12_clear 75 = .ok (.iastore, 1) := by decide +kernel
theorem dX12_clear_76 : decode cX12_clear 76 = .ok (.aload_n 0, 1) := by decide +kernel
theorem dX12_clear_77 : decode cX12_clear 77 = .ok (.getfield 50, 3) := by decide +kernel
theorem dX12_clear_80 : decode cX12_clear 80 = .ok (.iload_n 1, 1) := by decide +kernel
theorem dX12_clear_81 : decode cX12_clear 81 = .ok (.iconst 0, 1) := by decide +kernel
theorem dX12_clear_82 : decode cX12_clear 82 = .ok (.iastore, 1) := by decide +kernel
theorem dX12_clear_83 : decode cX12_clear 83 = .ok (.aload_n 0, 1) := by decide +kernel
theorem dX12_clear_84 : decode cX12_clear 84 = .ok (.getfield 53, 3) := by decide +kernel
theorem dX12_clear_87 : decode cX12_clear 87 = .ok (.iload_n 1, 1) := by decide +kernel
theorem dX12_clear_88 : decode cX12_clear 88 = .ok (.iconst 0, 1) := by decide +kernel
theorem dX12_clear_89 : decode cX12_clear 89 = .ok (.bastore, 1) := by decide +kernel
theorem dX12_clear_90 : decode cX12_clear 90 = .ok (.iconst 1, 1) := by decide +kernel
theorem dX12_clear_91 : decode cX12_clear 91 = .ok (.ireturn, 1) := by decide +kernel
theorem dX12_copy_0 : decode cX12_copy 0 = .ok (.iload_n 1, 1) := by decide +kernel
theorem dX12_copy_1 : decode cX12_copy 1 = .ok (.invokestatic 146, 3) := by decide +kernel
theorem dX12_copy_4 : decode cX12_copy 4 = .ok (.ifCond .eq 10, 3) := by decide +kernel
theorem dX12_copy_7 : decode cX12_copy 7 = .ok (.iload_n 2, 1) := by decide +kernel
theorem dX12_copy_8 : decode cX12_copy 8 = .ok (.invokestatic 146, 3) := by decide +kernel
theorem dX12_copy_11 : decode cX12_copy 11 = .ok (.ifCond .ne 5, 3) := by decide +kernel
theorem dX12_copy_14 : decode cX12_copy 14 = .ok (.iconst 0, 1) := by decide +kernel
theorem dX12_copy_15 : decode cX12_copy 15 = .ok (.ireturn, 1) := by decide +kernel
theorem dX12_copy_16 : decode cX12_copy 16 = .ok (.aload_n 0, 1) := by decide +kernel
theorem dX12_copy_17 : decode cX12_copy 17 = .ok (.getfield 16, 3) := by decide +kernel
theorem dX12_copy_20 : decode cX12_copy 20 = .ok (.iload_n 1, 1) := by decide +kernel
theorem dX12_copy_21 : decode cX12_copy 21 = .ok (.aload_n 0, 1) := by decide +kernel
theorem dX12_copy_22 : decode cX12_copy 22 = .ok (.getfield 16, 3) := by decide +kernel
theorem dX12_copy_25 : decode cX12_copy 25 = .ok (.iload_n 2, 1) := by decide +kernel
theorem dX12_copy_26 : decode cX12_copy 26 = .ok (.laload, 1) := by decide +kernel
theorem dX12_copy_27 : decode cX12_copy 27 = .ok (.lastore, 1) := by decide +kernel
theorem dX12_copy_28 : decode cX12_copy 28 = .ok (.iconst 0, 1) := by decide +kernel
theorem dX12_copy_29 : decode cX12_copy 29 = .ok (.istore_n 3, 1) := by decide +kernel
theorem dX12_copy_30 : decode cX12_copy 30 = .ok (.iload_n 3, 1) := by decide +kernel
theorem dX12_copy_31 : decode cX12_copy 31 = .ok (.sipush 2048, 3) := by decide +kernel
theorem dX12_copy_34 : decode cX12_copy 34 = .ok (.if_icmp .ge 57, 3) := by decide +kernel
theorem dX12_copy_37 : decode cX12_copy 37 = .ok (.aload_n 0, 1) := by decide +kernel
theorem dX12_copy_38 : decode cX12_copy 38 = .ok (.getfield 20, 3) := by decide +kernel
theorem dX12_copy_41 : decode cX12_copy 41 = .ok (.sipush 2048, 3) := by decide +kernel
theorem dX12_copy_44 : decode cX12_copy 44 = .ok (.iload_n 1, 1) := by decide +kernel
theorem dX12_copy_45 : decode cX12_copy 45 = .ok (.imul, 1) := by decide +kernel
theorem dX12_copy_46 : decode cX12_copy 46 = .ok (.iload_n 3, 1) := by decide +kernel
theorem dX12_copy_47 : decode cX12_copy 47 = .ok (.iadd, 1) := by decide +kernel
theorem dX12_copy_48 : decode cX12_copy 48 = .ok (.aload_n 0, 1) := by decide +kernel
theorem dX12_copy_49 : decode cX12_copy 49 = .ok (.getfield 20, 3) := by decide +kernel
theorem dX12_copy_52 : decode cX12_copy 52 = .ok (.sipush 2048, 3) := by decide +kernel
theorem dX12_copy_55 : decode cX12_copy 55 = .ok (.iload_n 2, 1) := by decide +kernel
theorem dX12_copy_56 : decode cX12_copy 56 = .ok (.imul, 1) := by decide +kernel
theorem dX12_copy_57 : decode cX12_copy 57 = .ok (.iload_n 3, 1) := by decide +kernel
theorem dX12_copy_58 : decode cX12_copy 58 = .ok (.iadd, 1) := by decide +kernel
theorem dX12_copy_59 : decode cX12_copy 59 = .ok (.laload, 1) := by decide +kernel
theorem dX12_copy_60 : decode cX12_copy 60 = .ok (.lastore, 1) := by decide +kernel
theorem dX12_copy_61 : decode cX12_copy 61 = .ok (.aload_n 0, 1) := by decide +kernel
theorem dX12_copy_62 : decode cX12_copy 62 = .ok (.getfield 23, 3) := by decide +kernel
theorem dX12_copy_65 : decode cX12_copy 65 = .ok (.sipush 2048, 3) := by decide +kernel
theorem dX12_copy_68 : decode cX12_copy 68 = .ok (.iload_n 1, 1) := by decide +kernel
theorem dX12_copy_69 : decode cX12_copy 69 = .ok (.imul, 1) := by decide +kernel
theorem dX12_copy_70 : decode cX12_copy 70 = .ok (.iload_n 3, 1) := by decide +kernel
theorem dX12_copy_71 : decode cX12_copy 71 = .ok (.iadd, 1) := by decide +kernel
theorem dX12_copy_72 : decode cX12_copy 72 = .ok (.aload_n 0, 1) := by decide +kernel
theorem dX12_copy_73 : decode cX12_copy 73 = .ok (.getfield 23, 3) := by decide +kernel
theorem dX12_copy_76 : decode cX12_copy 76 = .ok (.sipush 2048, 3) := by decide +kernel
theorem dX12_copy_79 : decode cX12_copy 79 = .ok (.iload_n 2, 1) := by decide +kernel
theorem dX12_copy_80 : decode cX12_copy 80 = .ok (.imul, 1) := by decide +kernel
theorem dX12_copy_81 : decode cX12_copy 81 = .ok (.iload_n 3, 1) := by decide +kernel
theorem dX12_copy_82 : decode cX12_copy 82 = .ok (.iadd, 1) := by decide +kernel
theorem dX12_copy_83 : decode cX12_copy 83 = .ok (.laload, 1) := by decide +kernel
theorem dX12_copy_84 : decode cX12_copy 84 = .ok (.lastore, 1) := by decide +kernel
theorem dX12_copy_85 : decode cX12_copy 85 = .ok (.iinc 3 1, 3) := by decide +kernel
theorem dX12_copy_88 : decode cX12_copy 88 = .ok (.goto (-58), 3) := by decide +kernel
theorem dX12_copy_91 : decode cX12_copy 91 = .ok (.aload_n 0, 1) := by decide +kernel
theorem dX12_copy_92 : decode cX12_copy 92 = .ok (.getfield 26, 3) := by decide +kernel
theorem dX12_copy_95 : decode cX12_copy 95 = .ok (.iload_n 1, 1) := by decide +kernel
theorem dX12_copy_96 : decode cX12_copy 96 = .ok (.aload_n 0, 1) := by decide +kernel
theorem dX12_copy_97 : decode cX12_copy 97 = .ok (.getfield 26, 3) := by decide +kernel
theorem dX12_copy_100 : decode cX12_copy 100 = .ok (.iload_n 2, 1) := by decide +kernel
theorem dX12_copy_101 : decode cX12_copy 101 = .ok (.iaload, 1) := by decide +kernel
theorem dX12_copy_102 : decode cX12_copy 102 = .ok (.iastore, 1) := by decide +kernel
theorem dX12_copy_103 : decode cX12_copy 103 = .ok (.aload_n 0, 1) := by decide +kernel
theorem dX12_copy_104 : decode cX12_copy 104 = .ok (.getfield 29, 3) := by decide +kernel
theorem dX12_copy_107 : decode cX12_copy 107 = .ok (.iload_n 1, 1) := by decide +kernel
theorem dX12_copy_108 : decode cX12_copy 108 = .ok (.aload_n 0, 1) := by decide +kernel
theorem dX12_copy_109 : decode cX12_copy 109 = .ok (.getfield 29, 3) := by decide +kernel
theorem dX12_copy_112 : decode cX12_copy 112 = .ok (.iload_n 2, 1) := by decide +kernel
theorem dX12_copy_113 : decode cX12_copy 113 = .ok (.laload, 1) := by decide +kernel
theorem dX12_copy_114 : decode cX12_copy 114 = .ok (.lastore, 1) := by decide +kernel
theorem dX12_copy_115 : decode cX12_copy 115 = .ok (.aload_n 0, 1) := by decide +kernel
theorem dX12_copy_116 : decode cX12_copy 116 = .ok (.getfield 38, 3) := by decide +kernel
theorem dX12_copy_119 : decode cX12_copy 119 = .ok (.iload_n 1, 1) := by decide +kernel
theorem dX12_copy_120 : decode cX12_copy 120 = .ok (.aload_n 0, 1) := by decide +kernel
theorem dX12_copy_121 : decode cX12_copy 121 = .ok (.getfield 38, 3) := by decide +kernel
theorem dX12_copy_124 : decode cX12_copy 124 = .ok (.iload_n 2, 1) := by decide +kernel
theorem dX12_copy_125 : decode cX12_copy 125 = .ok (.iaload, 1) := by decide +kernel
theorem dX12_copy_126 : decode cX12_copy 126 = .ok (.iastore, 1) := by decide +kernel
theorem dX12_copy_127 : decode cX12_copy 127 = .ok (.iconst 0, 1) := by decide +kernel
theorem dX12_copy_128 : decode cX12_copy 128 = .ok (.istore_n 3, 1) := by decide +kernel
theorem dX12_copy_129 : decode cX12_copy 129 = .ok (.iload_n 3, 1) := by decide +kernel
theorem dX12_copy_130 : decode cX12_copy 130 = .ok (.bipush 64, 2) := by decide +kernel
theorem dX12_copy_132 : decode cX12_copy 132 = .ok (.if_icmp .ge 69, 3) := by decide +kernel
theorem dX12_copy_135 : decode cX12_copy 135 = .ok (.aload_n 0, 1) := by decide +kernel
theorem dX12_copy_136 : decode cX12_copy 136 = .ok (.getfield 32, 3) := by decide +kernel
theorem dX12_copy_139 : decode cX12_copy 139 = .ok (.bipush 64, 2) := by decide +kernel
theorem dX12_copy_141 : decode cX12_copy 141 = .ok (.iload_n 1, 1) := by decide +kernel
theorem dX12_copy_142 : decode cX12_copy 142 = .ok (.imul, 1) := by decide +kernel
theorem dX12_copy_143 : decode cX12_copy 143 = .ok (.iload_n 3, 1) := by decide +kernel
theorem dX12_copy_144 : decode cX12_copy 144 = .ok (.iadd, 1) := by decide +kernel
theorem dX12_copy_145 : decode cX12_copy 145 = .ok (.aload_n 0, 1) := by decide +kernel
theorem dX12_copy_146 : decode cX12_copy 146 = .ok (.getfield 32, 3) := by decide +kernel
theorem dX12_copy_149 : decode cX12_copy 149 = .ok (.bipush 64, 2) := by decide +kernel
theorem dX12_copy_151 : decode cX12_copy 151 = .ok (.iload_n 2, 1) := by decide +kernel
theorem dX12_copy_152 : decode cX12_copy 152 = .ok (.imul, 1) := by decide +kernel
theorem dX12_copy_153 : decode cX12_copy 153 = .ok (.iload_n 3, 1) := by decide +kernel
theorem dX12_copy_154 : decode cX12_copy 154 = .ok (.iadd, 1) := by decide +kernel
theorem dX12_copy_155 : decode cX12_copy 155 = .ok (.iaload, 1) := by decide +kernel
theorem dX12_copy_156 : decode cX12_copy 156 = .ok (.iastore, 1) := by decide +kernel
theorem dX12_copy_157 : decode cX12_copy 157 = .ok (.aload_n 0, 1) := by decide +kernel
theorem dX12_copy_158 : decode cX12_copy 158 = .ok (.getfield 35, 3) := by decide +kernel
theorem dX12_copy_161 : decode cX12_copy 161 = .ok (.bipush 64, 2) := by decide +kernel
theorem dX12_copy_163 : decode cX12_copy 163 = .ok (.iload_n 1, 1) := by decide +kernel
theorem dX12_copy_164 : decode cX12_copy 164 = .ok (.imul, 1) := by decide +kernel
theorem dX12_copy_165 : decode cX12_copy 165 = .ok (.iload_n 3, 1) := by decide +kernel
theorem dX12_copy_166 : decode cX12_copy 166 = .ok (.iadd, 1) := by decide +kernel
theorem dX12_copy_167 : decode cX12_copy 167 = .ok (.aload_n 0, 1) := by decide +kernel
theorem dX12_copy_168 : decode cX12_copy 168 = .ok (.getfield 35, 3) := by decide +kernel
theorem dX12_copy_171 : decode cX12_copy 171 = .ok (.bipush 64, 2) := by decide +kernel
theorem dX12_copy_173 : decode cX12_copy 173 = .ok (.iload_n 2, 1) := by decide +kernel
theorem dX12_copy_174 : decode cX12_copy 174 = .ok (.imul, 1) := by decide +kernel
theorem dX12_copy_175 : decode cX12_copy 175 = .ok (.iload_n 3, 1) := by decide +kernel
theorem dX12_copy_176 : decode cX12_copy 176 = .ok (.iadd, 1) := by decide +kernel
theorem dX12_copy_177 : decode cX12_copy 177 = .ok (.laload, 1) := by decide +kernel
theorem dX12_copy_178 : decode cX12_copy 178 = .ok (.lastore, 1) := by decide +kernel
theorem dX12_copy_179 : decode cX12_copy 179 = .ok (.aload_n 0, 1) := by decide +kernel
theorem dX12_copy_180 : decode cX12_copy 180 = .ok (.bipush 64, 2) := by decide +kernel
theorem dX12_copy_182 : decode cX12_copy 182 = .ok (.iload_n 2, 1) := by decide +kernel
theorem dX12_copy_183 : decode cX12_copy 183 = .ok (.imul, 1) := by decide +kernel
theorem dX12_copy_184 : decode cX12_copy 184 = .ok (.iload_n 3, 1) := by decide +kernel
theorem dX12_copy_185 : decode cX12_copy 185 = .ok (.iadd, 1) := by decide +kernel
theorem dX12_copy_186 : decode cX12_copy 186 = .ok (.bipush 64, 2) := by decide +kernel
theorem dX12_copy_188 : decode cX12_copy 188 = .ok (.iload_n 1, 1) := by decide +kernel
theorem dX12_copy_189 : decode cX12_copy 189 = .ok (.imul, 1) := by decide +kernel
theorem dX12_copy_190 : decode cX12_copy 190 = .ok (.iload_n 3, 1) := by decide +kernel
theorem dX12_copy_191 : decode cX12_copy 191 = .ok (.iadd, 1) := by decide +kernel
theorem dX12_copy_192 : decode cX12_copy 192 = .ok (.invokevirtual 140, 3) := by decide +kernel
theorem dX12_copy_195 : decode cX12_copy 195 = .ok (.iinc 3 1, 3) := by decide +kernel
theorem dX12_copy_198 : decode cX12_copy 198 = .ok (.goto (-69), 3) := by decide +kernel
theorem dX12_copy_201 : decode cX12_copy 201 = .ok (.aload_n 0, 1) := by decide +kernel
theorem dX12_copy_202 : decode cX12_copy 202 = .ok (.getfield 50, 3) := by decide +kernel
theorem dX12_copy_205 : decode cX12_copy 205 = .ok (.iload_n 1, 1) := by decide +kernel
theorem dX12_copy_206 : decode cX12_copy 206 = .ok (.aload_n 0, 1) := by decide +kernel
theorem dX12_copy_207 : decode cX12_copy 207 = .ok (.getfield 50, 3) := by decide +kernel
theorem dX12_copy_210 : decode cX12_copy 210 = .ok (.iload_n 2, 1) := by decide +kernel
theorem dX12_copy_211 : decode cX12_copy 211 = .ok (.iaload, 1) := by decide +kernel
theorem dX12_copy_212 : decode cX12_copy 212 = .ok (.iastore, 1) := by decide +kernel
theorem dX12_copy_213 : decode cX12_copy 213 = .ok (.aload_n 0, 1) := by decide +kernel
theorem dX12_copy_214 : decode cX12_copy 214 = .ok (.getfield 53, 3) := by decide +kernel
theorem dX12_copy_217 : decode cX12_copy 217 = .ok (.iload_n 1, 1) := by decide +kernel
theorem dX12_copy_218 : decode cX12_copy 218 = .ok (.aload_n 0, 1) := by decide +kernel
theorem dX12_copy_219 : decode cX12_copy 219 = .ok (.getfield 53, 3) := by decide +kernel
theorem dX12_copy_222 : decode cX12_copy 222 = .ok (.iload_n 2, 1) := by decide +kernel
theorem dX12_copy_223 : decode cX12_copy 223 = .ok (.baload, 1) := by decide +kernel
theorem dX12_copy_224 : decode cX12_copy 224 = .ok (.bastore, 1) := by decide +kernel
theorem dX12_copy_225 : decode cX12_copy 225 = .ok (.iconst 0, 1) := by decide +kernel
theorem dX12_copy_226 : decode cX12_copy 226 = .ok (.istore_n 3, 1) := by decide +kernel
theorem dX12_copy_227 : decode cX12_copy 227 = .ok (.iload_n 3, 1) := by decide +kernel
theorem dX12_copy_228 : decode cX12_copy 228 = .ok (.sipush 300, 3) := by decide +kernel
theorem dX12_copy_231 : decode cX12_copy 231 = .ok (.if_icmp .ge 57, 3) := by decide +kernel
theorem dX12_copy_234 : decode cX12_copy 234 = .ok (.aload_n 0, 1) := by decide +kernel
theorem dX12_copy_235 : decode cX12_copy 235 = .ok (.getfield 57, 3) := by decide +kernel
theorem dX12_copy_238 : decode cX12_copy 238 = .ok (.sipush 300, 3) := by decide +kernel
theorem dX12_copy_241 : decode cX12_copy 241 = .ok (.iload_n 1, 1) := by decide +kernel
theorem dX12_copy_242 : decode cX12_copy 242 = .ok (.imul, 1) := by decide +kernel
theorem dX12_copy_243 : decode cX12_copy 243 = .ok (.iload_n 3, 1) := by decide +kernel
theorem dX12_copy_244 : decode cX12_copy 244 = .ok (.iadd, 1) := by decide +kernel
theorem dX12_copy_245 : decode cX12_copy 245 = .ok (.aload_n 0, 1) := by decide +kernel
theorem dX12_copy_246 : decode cX12_copy 246 = .ok (.getfield 57, 3) := by decide +kernel
theorem dX12_copy_249 : decode cX12_copy 249 = .ok (.sipush 300, 3) := by decide +kernel
theorem dX12_copy_252 : decode cX12_copy 252 = .ok (.iload_n 2, 1) := by decide +kernel
theorem dX12_copy_253 : decode cX12_copy 253 = .ok (.imul, 1) := by decide +kernel
theorem dX12_copy_254 : decode cX12_copy 254 = .ok (.iload_n 3, 1) := by decide +kernel
theorem dX12_copy_255 : decode cX12_copy 255 = .ok (.iadd, 1) := by decide +kernel
theorem dX12_copy_256 : decode cX12_copy 256 = .ok (.iaload, 1) := by decide +kernel
theorem dX12_copy_257 : decode cX12_copy 257 = .ok (.iastore, 1) := by decide +kernel
theorem dX12_copy_258 : decode cX12_copy 258 = .ok (.aload_n 0, 1) := by decide +kernel
theorem dX12_copy_259 : decode cX12_copy 259 = .ok (.getfield 60, 3) := by decide +kernel
theorem dX12_copy_262 : decode cX12_copy 262 = .ok (.sipush 300, 3) := by decide +kernel
theorem dX12_copy_265 : decode cX12_copy 265 = .ok (.iload_n 1, 1) := by decide +kernel
theorem dX12_copy_266 : decode cX12_copy 266 = .ok (.imul, 1) := by decide +kernel
theorem dX12_copy_267 : decode cX12_copy 267 = .ok (.iload_n 3, 1) := by decide +kernel
theorem dX12_copy_268 : decode cX12_copy 268 = .ok (.iadd, 1) := by decide +kernel
theorem dX12_copy_269 : decode cX12_copy 269 = .ok (.aload_n 0, 1) := by decide +kernel
theorem dX12_copy_270 : decode cX12_copy 270 = .ok (.getfield 60, 3) := by decide +kernel
theorem dX12_copy_273 : decode cX12_copy 273 = .ok (.sipush 300, 3) := by decide +kernel
theorem dX12_copy_276 : decode cX12_copy 276 = .ok (.iload_n 2, 1) := by decide +kernel
theorem dX12_copy_277 : decode cX12_copy 277 = .ok (.imul, 1) := by decide +kernel
theorem dX12_copy_278 : decode cX12_copy 278 = .ok (.iload_n 3, 1) := by decide +kernel
theorem dX12_copy_279 : decode cX12_copy 279 = .ok (.iadd, 1) := by decide +kernel
theorem dX12_copy_280 : decode cX12_copy 280 = .ok (.laload, 1) := by decide +kernel
theorem dX12_copy_281 : decode cX12_copy 281 = .ok (.lastore, 1) := by decide +kernel
theorem dX12_copy_282 : decode cX12_copy 282 = .ok (.iinc 3 1, 3) := by decide +kernel
theorem dX12_copy_285 : decode cX12_copy 285 = .ok (.goto (-58), 3) := by decide +kernel
theorem dX12_copy_288 : decode cX12_copy 288 = .ok (.iconst 1, 1) := by decide +kernel
theorem dX12_copy_289 : decode cX12_copy 289 = .ok (.ireturn, 1) := by decide +kernel
theorem dX12_pooledAt_0 : decode cX12_pooledAt 0 = .ok (.iconst (-1), 1) := by decide +kernel
theorem dX12_pooledAt_1 : decode cX12_pooledAt 1 = .ok (.istore_n 2, 1) := by decide +kernel
theorem dX12_pooledAt_2 : decode cX12_pooledAt 2 = .ok (.iconst 0, 1) := by decide +kernel
theorem dX12_pooledAt_3 : decode cX12_pooledAt 3 = .ok (.istore_n 3, 1) := by decide +kernel
theorem dX12_pooledAt_4 : decode cX12_pooledAt 4 = .ok (.iload_n 3, 1) := by decide +kernel
theorem dX12_pooledAt_5 : decode cX12_pooledAt 5 = .ok (.aload_n 0, 1) := by decide +kernel
theorem dX12_pooledAt_6 : decode cX12_pooledAt 6 = .ok (.getfield 156, 3) := by decide +kernel
theorem dX12_pooledAt_9 : decode cX12_pooledAt 9 = .ok (.if_icmp .ge 25, 3) := by decide +kernel
theorem dX12_pooledAt_12 : decode cX12_pooledAt 12 = .ok (.aload_n 0, 1) := by decide +kernel
theorem dX12_pooledAt_13 : decode cX12_pooledAt 13 = .ok (.getfield 69, 3) := by decide +kernel
theorem dX12_pooledAt_16 : decode cX12_pooledAt 16 = .ok (.iload_n 3, 1) := by decide +kernel
theorem dX12_pooledAt_17 : decode cX12_pooledAt 17 = .ok (.iaload, 1) := by decide +kernel
theorem dX12_pooledAt_18 : decode cX12_pooledAt 18 = .ok (.iload_n 1, 1) := by decide +kernel
theorem dX12_pooledAt_19 : decode cX12_pooledAt 19 = .ok (.if_icmp .ne 7, 3) := by decide +kernel
theorem dX12_pooledAt_22 : decode cX12_pooledAt 22 = .ok (.iload_n 3, 1) := by decide +kernel
theorem dX12_pooledAt_23 : decode cX12_pooledAt 23 = .ok (.goto 4, 3) := by decide +kernel
theorem dX12_pooledAt_26 : decode cX12_pooledAt 26 = .ok (.iload_n 2, 1) := by decide +kernel
theorem dX12_pooledAt_27 : decode cX12_pooledAt 27 = .ok (.istore_n 2, 1) := by decide +kernel
theorem dX12_pooledAt_28 : decode cX12_pooledAt 28 = .ok (.iinc 3 1, 3) := by decide +kernel
theorem dX12_pooledAt_31 : decode cX12_pooledAt 31 = .ok (.goto (-27), 3) := by decide +kernel
theorem dX12_pooledAt_34 : decode cX12_pooledAt 34 = .ok (.iload_n 2, 1) := by decide +kernel
theorem dX12_pooledAt_35 : decode cX12_pooledAt 35 = .ok (.ireturn, 1) := by decide +kernel
theorem dX12_pools_0 : decode cX12_pools 0 = .ok (.aload_n 0, 1) := by decide +kernel
theorem dX12_pools_1 : decode cX12_pools 1 = .ok (.iload_n 1, 1) := by decide +kernel
theorem dX12_pools_2 : decode cX12_pools 2 = .ok (.invokevirtual 159, 3) := by decide +kernel
theorem dX12_pools_5 : decode cX12_pools 5 = .ok (.istore 6, 2) := by decide +kernel
theorem dX12_pools_7 : decode cX12_pools 7 = .ok (.iload 6, 2) := by decide +kernel
theorem dX12_pools_9 : decode cX12_pools 9 = .ok (.ifCond .ge 43, 3) := by decide +kernel
theorem dX12_pools_12 : decode cX12_pools 12 = .ok (.aload_n 0, 1) := by decide +kernel
theorem dX12_pools_13 : decode cX12_pools 13 = .ok (.getfield 156, 3) := by decide +kernel
theorem dX12_pools_16 : decode cX12_pools 16 = .ok (.istore 6, 2) := by decide +kernel
theorem dX12_pools_18 : decode cX12_pools 18 = .ok (.aload_n 0, 1) := by decide +kernel
theorem dX12_pools_19 : decode cX12_pools 19 = .ok (.getfield 69, 3) := by decide +kernel
theorem dX12_pools_22 : decode cX12_pools 22 = .ok (.iload 6, 2) := by decide +kernel
theorem dX12_pools_24 : decode cX12_pools 24 = .ok (.iload_n 1, 1) := by decide +kernel
theorem dX12_pools_25 : decode cX12_pools 25 = .ok (.iastore, 1) := by decide +kernel
theorem dX12_pools_26 : decode cX12_pools 26 = .ok (.aload_n 0, 1) := by decide +kernel
theorem dX12_pools_27 : decode cX12_pools 27 = .ok (.getfield 72, 3) := by decide +kernel
theorem dX12_pools_30 : decode cX12_pools 30 = .ok (.iload 6, 2) := by decide +kernel
theorem dX12_pools_32 : decode cX12_pools 32 = .ok (.lconst 0, 1) := by decide +kernel
theorem dX12_pools_33 : decode cX12_pools 33 = .ok (.lastore, 1) := by decide +kernel
theorem dX12_pools_34 : decode cX12_pools 34 = .ok (.aload_n 0, 1) := by decide +kernel
theorem dX12_pools_35 : decode cX12_pools 35 = .ok (.getfield 75, 3) := by decide +kernel
theorem dX12_pools_38 : decode cX12_pools 38 = .ok (.iload 6, 2) := by decide +kernel
theorem dX12_pools_40 : decode cX12_pools 40 = .ok (.lconst 0, 1) := by decide +kernel
theorem dX12_pools_41 : decode cX12_pools 41 = .ok (.lastore, 1) := by decide +kernel
theorem dX12_pools_42 : decode cX12_pools 42 = .ok (.aload_n 0, 1) := by decide +kernel
theorem dX12_pools_43 : decode cX12_pools 43 = .ok (.dup, 1) := by decide +kernel
theorem dX12_pools_44 : decode cX12_pools 44 = .ok (.getfield 156, 3) := by decide +kernel
theorem dX12_pools_47 : decode cX12_pools 47 = .ok (.iconst 1, 1) := by decide +kernel
theorem dX12_pools_48 : decode cX12_pools 48 = .ok (.iadd, 1) := by decide +kernel
theorem dX12_pools_49 : decode cX12_pools 49 = .ok (.putfield 156, 3) := by decide +kernel
theorem dX12_pools_52 : decode cX12_pools 52 = .ok (.aload_n 0, 1) := by decide +kernel
theorem dX12_pools_53 : decode cX12_pools 53 = .ok (.getfield 72, 3) := by decide +kernel
theorem dX12_pools_56 : decode cX12_pools 56 = .ok (.iload 6, 2) := by decide +kernel
theorem dX12_pools_58 : decode cX12_pools 58 = .ok (.dup2, 1) := by decide +kernel
theorem dX12_pools_59 : decode cX12_pools 59 = .ok (.laload, 1) := by decide +kernel
theorem dX12_pools_60 : decode cX12_pools 60 = .ok (.lload_n 2, 1) := by decide +kernel
theorem dX12_pools_61 : decode cX12_pools 61 = .ok (.ladd, 1) := by decide +kernel
theorem dX12_pools_62 : decode cX12_pools 62 = .ok (.lastore, 1) := by decide +kernel
theorem dX12_pools_63 : decode cX12_pools 63 = .ok (.aload_n 0, 1) := by decide +kernel
theorem dX12_pools_64 : decode cX12_pools 64 = .ok (.getfield 75, 3) := by decide +kernel
theorem dX12_pools_67 : decode cX12_pools 67 = .ok (.iload 6, 2) := by decide +kernel
theorem dX12_pools_69 : decode cX12_pools 69 = .ok (.dup2, 1) := by decide +kernel
theorem dX12_pools_70 : decode cX12_pools 70 = .ok (.laload, 1) := by decide +kernel
theorem dX12_pools_71 : decode cX12_pools 71 = .ok (.lload 4, 2) := by decide +kernel
theorem dX12_pools_73 : decode cX12_pools 73 = .ok (.ladd, 1) := by decide +kernel
theorem dX12_pools_74 : decode cX12_pools 74 = .ok (.lastore, 1) := by decide +kernel
theorem dX12_pools_75 : decode cX12_pools 75 = .ok (.return_, 1) := by decide +kernel
theorem dX12_join_0 : decode cX12_join 0 = .ok (.iload_n 1, 1) := by decide +kernel
theorem dX12_join_1 : decode cX12_join 1 = .ok (.invokestatic 146, 3) := by decide +kernel
theorem dX12_join_4 : decode cX12_join 4 = .ok (.ifCond .eq 30, 3) := by decide +kernel
theorem dX12_join_7 : decode cX12_join 7 = .ok (.iload_n 2, 1) := by decide +kernel
theorem dX12_join_8 : decode cX12_join 8 = .ok (.invokestatic 146, 3) := by decide +kernel
theorem dX12_join_11 : decode cX12_join 11 = .ok (.ifCond .eq 23, 3) := by decide +kernel
theorem dX12_join_14 : decode cX12_join 14 = .ok (.aload_n 0, 1) := by decide +kernel
theorem dX12_join_15 : decode cX12_join 15 = .ok (.getfield 16, 3) := by decide +kernel
theorem dX12_join_18 : decode cX12_join 18 = .ok (.iload_n 1, 1) := by decide +kernel
theorem dX12_join_19 : decode cX12_join 19 = .ok (.laload, 1) := by decide +kernel
theorem dX12_join_20 : decode cX12_join 20 = .ok (.aload_n 0, 1) := by decide +kernel
theorem dX12_join_21 : decode cX12_join 21 = .ok (.getfield 16, 3) := by decide +kernel
theorem dX12_join_24 : decode cX12_join 24 = .ok (.iload_n 2, 1) := by decide +kernel
theorem dX12_join_25 : decode cX12_join 25 = .ok (.laload, 1) := by decide +kernel
theorem dX12_join_26 : decode cX12_join 26 = .ok (.ladd, 1) := by decide +kernel
theorem dX12_join_27 : decode cX12_join 27 = .ok (.ldc2_w 149, 3) := by decide +kernel
theorem dX12_join_30 : decode cX12_join 30 = .ok (.lcmp, 1) := by decide +kernel
theorem dX12_join_31 : decode cX12_join 31 = .ok (.ifCond .le 7, 3) := by decide +kernel
theorem dX12_join_34 : decode cX12_join 34 = .ok (.ldc2_w 151, 3) := by decide +kernel
theorem dX12_join_37 : decode cX12_join 37 = .ok (.lreturn, 1) := by decide +kernel
theorem dX12_join_38 : decode cX12_join 38 = .ok (.aload_n 0, 1) := by decide +kernel
theorem dX12_join_39 : decode cX12_join 39 = .ok (.iload_n 1, 1) := by decide +kernel
theorem dX12_join_40 : decode cX12_join 40 = .ok (.iload_n 2, 1) := by decide +kernel
theorem dX12_join_41 : decode cX12_join 41 = .ok (.invokevirtual 163, 3) := by decide +kernel
theorem dX12_join_44 : decode cX12_join 44 = .ok (.aload_n 0, 1) := by decide +kernel
theorem dX12_join_45 : decode cX12_join 45 = .ok (.iload_n 1, 1) := by decide +kernel
theorem dX12_join_46 : decode cX12_join 46 = .ok (.iload_n 2, 1) := by decide +kernel
theorem dX12_join_47 : decode cX12_join 47 = .ok (.invokevirtual 166, 3) := by decide +kernel
theorem dX12_join_50 : decode cX12_join 50 = .ok (.aload_n 0, 1) := by decide +kernel
theorem dX12_join_51 : decode cX12_join 51 = .ok (.iload_n 1, 1) := by decide +kernel
theorem dX12_join_52 : decode cX12_join 52 = .ok (.iload_n 2, 1) := by decide +kernel
theorem dX12_join_53 : decode cX12_join 53 = .ok (.invokevirtual 169, 3) := by decide +kernel
theorem dX12_join_56 : decode cX12_join 56 = .ok (.iconst 0, 1) := by decide +kernel
theorem dX12_join_57 : decode cX12_join 57 = .ok (.istore_n 3, 1) := by decide +kernel
theorem dX12_join_58 : decode cX12_join 58 = .ok (.iload_n 3, 1) := by decide +kernel
theorem dX12_join_59 : decode cX12_join 59 = .ok (.sipush 2048, 3) := by decide +kernel
theorem dX12_join_62 : decode cX12_join 62 = .ok (.if_icmp .ge 63, 3) := by decide +kernel
theorem dX12_join_65 : decode cX12_join 65 = .ok (.aload_n 0, 1) := by decide +kernel
theorem dX12_join_66 : decode cX12_join 66 = .ok (.getfield 20, 3) := by decide +kernel
theorem dX12_join_69 : decode cX12_join 69 = .ok (.sipush 2048, 3) := by decide +kernel
theorem dX12_join_72 : decode cX12_join 72 = .ok (.iload_n 1, 1) := by decide +kernel
theorem dX12_join_73 : decode cX12_join 73 = .ok (.imul, 1) := by decide +kernel
theorem dX12_join_74 : decode cX12_join 74 = .ok (.iload_n 3, 1) := by decide +kernel
theorem dX12_join_75 : decode cX12_join 75 = .ok (.iadd, 1) := by decide +kernel
theorem dX12_join_76 : decode cX12_join 76 = .ok (.dup2, 1) := by decide +kernel
theorem dX12_join_77 : decode cX12_join 77 = .ok (.laload, 1) := by decide +kernel
theorem dX12_join_78 : decode cX12_join 78 = .ok (.aload_n 0, 1) := by decide +kernel
theorem dX12_join_79 : decode cX12_join 79 = .ok (.getfield 20, 3) := by decide +kernel
theorem dX12_join_82 : decode cX12_join 82 = .ok (.sipush 2048, 3) := by decide +kernel
theorem dX12_join_85 : decode cX12_join 85 = .ok (.iload_n 2, 1) := by decide +kernel
theorem dX12_join_86 : decode cX12_join 86 = .ok (.imul, 1) := by decide +kernel
theorem dX12_join_87 : decode cX12_join 87 = .ok (.iload_n 3, 1) := by decide +kernel
theorem dX12_join_88 : decode cX12_join 88 = .ok (.iadd, 1) := by decide +kernel
theorem dX12_join_89 : decode cX12_join 89 = .ok (.laload, 1) := by decide +kernel
theorem dX12_join_90 : decode cX12_join 90 = .ok (.ladd, 1) := by decide +kernel
theorem dX12_join_91 : decode cX12_join 91 = .ok (.lastore, 1) := by decide +kernel
theorem dX12_join_92 : decode cX12_join 92 = .ok (.aload_n 0, 1) := by decide +kernel
theorem dX12_join_93 : decode cX12_join 93 = .ok (.getfield 23, 3) := by decide +kernel
theorem dX12_join_96 : decode cX12_join 96 = .ok (.sipush 2048, 3) := by decide +kernel
theorem dX12_join_99 : decode cX12_join 99 = .ok (.iload_n 1, 1) := by decide +kernel
theorem dX12_join_100 : decode cX12_join 100 = .ok (.imul, 1) := by decide +kernel
theorem dX12_join_101 : decode cX12_join 101 = .ok (.iload_n 3, 1) := by decide +kernel
theorem dX12_join_102 : decode cX12_join 102 = .ok (.iadd, 1) := by decide +kernel
theorem dX12_join_103 : decode cX12_join 103 = .ok (.dup2, 1) := by decide +kernel
theorem dX12_join_104 : decode cX12_join 104 = .ok (.laload, 1) := by decide +kernel
theorem dX12_join_105 : decode cX12_join 105 = .ok (.aload_n 0, 1) := by decide +kernel
theorem dX12_join_106 : decode cX12_join 106 = .ok (.getfield 23, 3) := by decide +kernel
theorem dX12_join_109 : decode cX12_join 109 = .ok (.sipush 2048, 3) := by decide +kernel
theorem dX12_join_112 : decode cX12_join 112 = .ok (.iload_n 2, 1) := by decide +kernel
theorem dX12_join_113 : decode cX12_join 113 = .ok (.imul, 1) := by decide +kernel
theorem dX12_join_114 : decode cX12_join 114 = .ok (.iload_n 3, 1) := by decide +kernel
theorem dX12_join_115 : decode cX12_join 115 = .ok (.iadd, 1) := by decide +kernel
theorem dX12_join_116 : decode cX12_join 116 = .ok (.laload, 1) := by decide +kernel
theorem dX12_join_117 : decode cX12_join 117 = .ok (.ladd, 1) := by decide +kernel
theorem dX12_join_118 : decode cX12_join 118 = .ok (.lastore, 1) := by decide +kernel
theorem dX12_join_119 : decode cX12_join 119 = .ok (.iinc 3 1, 3) := by decide +kernel
theorem dX12_join_122 : decode cX12_join 122 = .ok (.goto (-64), 3) := by decide +kernel
theorem dX12_join_125 : decode cX12_join 125 = .ok (.aload_n 0, 1) := by decide +kernel
theorem dX12_join_126 : decode cX12_join 126 = .ok (.getfield 16, 3) := by decide +kernel
theorem dX12_join_129 : decode cX12_join 129 = .ok (.iload_n 1, 1) := by decide +kernel
theorem dX12_join_130 : decode cX12_join 130 = .ok (.dup2, 1) := by decide +kernel
theorem dX12_join_131 : decode cX12_join 131 = .ok (.laload, 1) := by decide +kernel
theorem dX12_join_132 : decode cX12_join 132 = .ok (.aload_n 0, 1) := by decide +kernel
theorem dX12_join_133 : decode cX12_join 133 = .ok (.getfield 16, 3) := by decide +kernel
theorem dX12_join_136 : decode cX12_join 136 = .ok (.iload_n 2, 1) := by decide +kernel
theorem dX12_join_137 : decode cX12_join 137 = .ok (.laload, 1) := by decide +kernel
theorem dX12_join_138 : decode cX12_join 138 = .ok (.ladd, 1) := by decide +kernel
theorem dX12_join_139 : decode cX12_join 139 = .ok (.lastore, 1) := by decide +kernel
theorem dX12_join_140 : decode cX12_join 140 = .ok (.aload_n 0, 1) := by decide +kernel
theorem dX12_join_141 : decode cX12_join 141 = .ok (.getfield 16, 3) := by decide +kernel
theorem dX12_join_144 : decode cX12_join 144 = .ok (.iload_n 1, 1) := by decide +kernel
theorem dX12_join_145 : decode cX12_join 145 = .ok (.laload, 1) := by decide +kernel
theorem dX12_join_146 : decode cX12_join 146 = .ok (.lreturn, 1) := by decide +kernel
theorem dX12_joinMisra_0 : decode cX12_joinMisra 0 = .ok (.aload_n 0, 1) := by decide +kernel
theorem dX12_joinMisra_1 : decode cX12_joinMisra 1 = .ok (.iconst 0, 1) := by decide +kernel
theorem dX12_joinMisra_2 : decode cX12_joinMisra 2 = .ok (.putfield 156, 3) := by decide +kernel
theorem dX12_joinMisra_5 : decode cX12_joinMisra 5 = .ok (.bipush 64, 2) := by decide +kernel
theorem dX12_joinMisra_7 : decode cX12_joinMisra 7 = .ok (.iload_n 1, 1) := by decide +kernel
theorem dX12_joinMisra_8 : decode cX12_joinMisra 8 = .ok (.imul, 1) := by decide +kernel
theorem dX12_joinMisra_9 : decode cX12_joinMisra 9 = .ok (.istore_n 3, 1) := by decide +kernel
theorem dX12_joinMisra_10 : decode cX12_joinMisra 10 = .ok (.iload_n 3, 1) := by decide +kernel
theorem dX12_joinMisra_11 : decode cX12_joinMisra 11 = .ok (.bipush 64, 2) := by decide +kernel
theorem dX12_joinMisra_13 : decode cX12_joinMisra 13 = .ok (.iload_n 1, 1) := by decide +kernel
theorem dX12_joinMisra_14 : decode cX12_joinMisra 14 = .ok (.imul, 1) := by decide +kernel
theorem dX12_joinMisra_15 : decode cX12_joinMisra 15 = .ok (.aload_n 0, 1) := by decide +kernel
theorem dX12_joinMisra_16 : decode cX12_joinMisra 16 = .ok (.getfield 26, 3) := by decide +kernel
theorem dX12_joinMisra_19 : decode cX12_joinMisra 19 = .ok (.iload_n 1, 1) := by decide +kernel
theorem dX12_joinMisra_20 : decode cX12_joinMisra 20 = .ok (.iaload, 1) := by decide +kernel
theorem dX12_joinMisra_21 : decode cX12_joinMisra 21 = .ok (.iadd, 1) := by decide +kernel
theorem dX12_joinMisra_22 : decode cX12_joinMisra 22 = .ok (.if_icmp .ge 26, 3) := by decide +kernel
theorem dX12_joinMisra_25 : decode cX12_joinMisra 25 = .ok (.aload_n 0, 1) := by decide +kernel
theorem dX12_joinMisra_26 : decode cX12_joinMisra 26 = .ok (.aload_n 0, 1) := by decide +kernel
theorem dX12_joinMisra_27 : decode cX12_joinMisra 27 = .ok (.getfield 32, 3) := by decide +kernel
theorem dX12_joinMisra_30 : decode cX12_joinMisra 30 = .ok (.iload_n 3, 1) := by decide +kernel
theorem dX12_joinMisra_31 : decode cX12_joinMisra 31 = .ok (.iaload, 1) := by decide +kernel
theorem dX12_joinMisra_32 : decode cX12_joinMisra 32 = .ok (.aload_n 0, 1) := by decide +kernel
theorem dX12_joinMisra_33 : decode cX12_joinMisra 33 = .ok (.getfield 35, 3) := by decide +kernel
theorem dX12_joinMisra_36 : decode cX12_joinMisra 36 = .ok (.iload_n 3, 1) := by decide +kernel
theorem dX12_joinMisra_37 : decode cX12_joinMisra 37 = .ok (.laload, 1) := by decide +kernel
theorem dX12_joinMisra_38 : decode cX12_joinMisra 38 = .ok (.lconst 0, 1) := by decide +kernel
theorem dX12_joinMisra_39 : decode cX12_joinMisra 39 = .ok (.invokevirtual 172, 3) := by decide +kernel
theorem dX12_joinMisra_42 : decode cX12_joinMisra 42 = .ok (.iinc 3 1, 3) := by decide +kernel
theorem dX12_joinMisra_45 : decode cX12_joinMisra 45 = .ok (.goto (-35), 3) := by decide +kernel
theorem dX12_joinMisra_48 : decode cX12_joinMisra 48 = .ok (.bipush 64, 2) := by decide +kernel
theorem dX12_joinMisra_50 : decode cX12_joinMisra 50 = .ok (.iload_n 2, 1) := by decide +kernel
theorem dX12_joinMisra_51 : decode cX12_joinMisra 51 = .ok (.imul, 1) := by decide +kernel
theorem dX12_joinMisra_52 : decode cX12_joinMisra 52 = .ok (.istore_n 3, 1) := by decide +kernel
theorem dX12_joinMisra_53 : decode cX12_joinMisra 53 = .ok (.iload_n 3, 1) := by decide +kernel
theorem dX12_joinMisra_54 : decode cX12_joinMisra 54 = .ok (.bipush 64, 2) := by decide +kernel
theorem dX12_joinMisra_56 : decode cX12_joinMisra 56 = .ok (.iload_n 2, 1) := by decide +kernel
theorem dX12_joinMisra_57 : decode cX12_joinMisra 57 = .ok (.imul, 1) := by decide +kernel
theorem dX12_joinMisra_58 : decode cX12_joinMisra 58 = .ok (.aload_n 0, 1) := by decide +kernel
theorem dX12_joinMisra_59 : decode cX12_joinMisra 59 = .ok (.getfield 26, 3) := by decide +kernel
theorem dX12_joinMisra_62 : decode cX12_joinMisra 62 = .ok (.iload_n 2, 1) := by decide +kernel
theorem dX12_joinMisra_63 : decode cX12_joinMisra 63 = .ok (.iaload, 1) := by decide +kernel
theorem dX12_joinMisra_64 : decode cX12_joinMisra 64 = .ok (.iadd, 1) := by decide +kernel
theorem dX12_joinMisra_65 : decode cX12_joinMisra 65 = .ok (.if_icmp .ge 26, 3) := by decide +kernel
theorem dX12_joinMisra_68 : decode cX12_joinMisra 68 = .ok (.aload_n 0, 1) := by decide +kernel
theorem dX12_joinMisra_69 : decode cX12_joinMisra 69 = .ok (.aload_n 0, 1) := by decide +kernel
theorem dX12_joinMisra_70 : decode cX12_joinMisra 70 = .ok (.getfield 32, 3) := by decide +kernel
theorem dX12_joinMisra_73 : decode cX12_joinMisra 73 = .ok (.iload_n 3, 1) := by decide +kernel
theorem dX12_joinMisra_74 : decode cX12_joinMisra 74 = .ok (.iaload, 1) := by decide +kernel
theorem dX12_joinMisra_75 : decode cX12_joinMisra 75 = .ok (.aload_n 0, 1) := by decide +kernel
theorem dX12_joinMisra_76 : decode cX12_joinMisra 76 = .ok (.getfield 35, 3) := by decide +kernel
theorem dX12_joinMisra_79 : decode cX12_joinMisra 79 = .ok (.iload_n 3, 1) := by decide +kernel
theorem dX12_joinMisra_80 : decode cX12_joinMisra 80 = .ok (.laload, 1) := by decide +kernel
theorem dX12_joinMisra_81 : decode cX12_joinMisra 81 = .ok (.lconst 0, 1) := by decide +kernel
theorem dX12_joinMisra_82 : decode cX12_joinMisra 82 = .ok (.invokevirtual 172, 3) := by decide +kernel
theorem dX12_joinMisra_85 : decode cX12_joinMisra 85 = .ok (.iinc 3 1, 3) := by decide +kernel
theorem dX12_joinMisra_88 : decode cX12_joinMisra 88 = .ok (.goto (-35), 3) := by decide +kernel
theorem dX12_joinMisra_91 : decode cX12_joinMisra 91 = .ok (.aload_n 0, 1) := by decide +kernel
theorem dX12_joinMisra_92 : decode cX12_joinMisra 92 = .ok (.getfield 156, 3) := by decide +kernel
theorem dX12_joinMisra_95 : decode cX12_joinMisra 95 = .ok (.aload_n 0, 1) := by decide +kernel
theorem dX12_joinMisra_96 : decode cX12_joinMisra 96 = .ok (.getfield 97, 3) := by decide +kernel
theorem dX12_joinMisra_99 : decode cX12_joinMisra 99 = .ok (.if_icmp .le 16, 3) := by decide +kernel
theorem dX12_joinMisra_102 : decode cX12_joinMisra 102 = .ok (.aload_n 0, 1) := by decide +kernel
theorem dX12_joinMisra_103 : decode cX12_joinMisra 103 = .ok (.aload_n 0, 1) := by decide +kernel
theorem dX12_joinMisra_104 : decode cX12_joinMisra 104 = .ok (.getfield 97, 3) := by decide +kernel
theorem dX12_joinMisra_107 : decode cX12_joinMisra 107 = .ok (.iconst 1, 1) := by decide +kernel
theorem dX12_joinMisra_108 : decode cX12_joinMisra 108 = .ok (.iadd, 1) := by decide +kernel
theorem dX12_joinMisra_109 : decode cX12_joinMisra 109 = .ok (.invokevirtual 176, 3) := by decide +kernel
theorem dX12_joinMisra_112 : decode cX12_joinMisra 112 = .ok (.goto 4, 3) := by decide +kernel
theorem dX12_joinMisra_115 : decode cX12_joinMisra 115 = .ok (.lconst 0, 1) := by decide +kernel
theorem dX12_joinMisra_116 : decode cX12_joinMisra 116 = .ok (.lstore_n 3, 1) := by decide +kernel
theorem dX12_joinMisra_117 : decode cX12_joinMisra 117 = .ok (.aload_n 0, 1) := by decide +kernel
theorem dX12_joinMisra_118 : decode cX12_joinMisra 118 = .ok (.getfield 29, 3) := by decide +kernel
theorem dX12_joinMisra_121 : decode cX12_joinMisra 121 = .ok (.iload_n 1, 1) := by decide +kernel
theorem dX12_joinMisra_122 : decode cX12_joinMisra 122 = .ok (.dup2, 1) := by decide +kernel
theorem dX12_joinMisra_123 : decode cX12_joinMisra 123 = .ok (.laload, 1) := by decide +kernel
theorem dX12_joinMisra_124 : decode cX12_joinMisra 124 = .ok (.aload_n 0, 1) := by decide +kernel
theorem dX12_joinMisra_125 : decode cX12_joinMisra 125 = .ok (.getfield 29, 3) := by decide +kernel
theorem dX12_joinMisra_128 : decode cX12_joinMisra 128 = .ok (.iload_n 2, 1) := by decide +kernel
theorem dX12_joinMisra_129 : decode cX12_joinMisra 129 = .ok (.laload, 1) := by decide +kernel
theorem dX12_joinMisra_130 : decode cX12_joinMisra 130 = .ok (.lload_n 3, 1) := by decide +kernel
theorem dX12_joinMisra_131 : decode cX12_joinMisra 131 = .ok (.ladd, 1) := by decide +kernel
theorem dX12_joinMisra_132 : decode cX12_joinMisra 132 = .ok (.ladd, 1) := by decide +kernel
theorem dX12_joinMisra_133 : decode cX12_joinMisra 133 = .ok (.lastore, 1) := by decide +kernel
theorem dX12_joinMisra_134 : decode cX12_joinMisra 134 = .ok (.aload_n 0, 1) := by decide +kernel
theorem dX12_joinMisra_135 : decode cX12_joinMisra 135 = .ok (.getfield 26, 3) := by decide +kernel
theorem dX12_joinMisra_138 : decode cX12_joinMisra 138 = .ok (.iload_n 1, 1) := by decide +kernel
theorem dX12_joinMisra_139 : decode cX12_joinMisra 139 = .ok (.iconst 0, 1) := by decide +kernel
theorem dX12_joinMisra_140 : decode cX12_joinMisra 140 = .ok (.iastore, 1) := by decide +kernel
theorem dX12_joinMisra_141 : decode cX12_joinMisra 141 = .ok (.iconst 0, 1) := by decide +kernel
theorem dX12_joinMisra_142 : decode cX12_joinMisra 142 = .ok (.istore 5, 2) := by decide +kernel
theorem dX12_joinMisra_144 : decode cX12_joinMisra 144 = .ok (.iload 5, 2) := by decide +kernel
theorem dX12_joinMisra_146 : decode cX12_joinMisra 146 = .ok (.aload_n 0, 1) := by decide +kernel
theorem dX12_joinMisra_147 : decode cX12_joinMisra 147 = .ok (.getfield 156, 3) := by decide +kernel
theorem dX12_joinMisra_150 : decode cX12_joinMisra 150 = .ok (.if_icmp .ge 79, 3) := by decide +kernel
theorem dX12_joinMisra_153 : decode cX12_joinMisra 153 = .ok (.aload_n 0, 1) := by decide +kernel
theorem dX12_joinMisra_154 : decode cX12_joinMisra 154 = .ok (.getfield 72, 3) := by decide +kernel
theorem dX12_joinMisra_157 : decode cX12_joinMisra 157 = .ok (.iload 5, 2) := by decide +kernel
theorem dX12_joinMisra_159 : decode cX12_joinMisra 159 = .ok (.laload, 1) := by decide +kernel
theorem dX12_joinMisra_160 : decode cX12_joinMisra 160 = .ok (.lload_n 3, 1) := by decide +kernel
theorem dX12_joinMisra_161 : decode cX12_joinMisra 161 = .ok (.lcmp, 1) := by decide +kernel
theorem dX12_joinMisra_162 : decode cX12_joinMisra 162 = .ok (.ifCond .le 61, 3) := by decide +kernel
theorem dX12_joinMisra_165 : decode cX12_joinMisra 165 = .ok (.aload_n 0, 1) := by decide +kernel
theorem dX12_joinMisra_166 : decode cX12_joinMisra 166 = .ok (.getfield 32, 3) := by decide +kernel
theorem dX12_joinMisra_169 : decode cX12_joinMisra 169 = .ok (.bipush 64, 2) := by decide +kernel
theorem dX12_joinMisra_171 : decode cX12_joinMisra 171 = .ok (.iload_n 1, 1) := by decide +kernel
theorem dX12_joinMisra_172 : decode cX12_joinMisra 172 = .ok (.imul, 1) := by decide +kernel
theorem dX12_joinMisra_173 : decode cX12_joinMisra 173 = .ok (.aload_n 0, 1) := by decide +kernel
theorem dX12_joinMisra_174 : decode cX12_joinMisra 174 = .ok (.getfield 26, 3) := by decide +kernel
theorem dX12_joinMisra_177 : decode cX12_joinMisra 177 = .ok (.iload_n 1, 1) := by decide +kernel
theorem dX12_joinMisra_178 : decode cX12_joinMisra 178 = .ok (.iaload, 1) := by decide +kernel
theorem dX12_joinMisra_179 : decode cX12_joinMisra 179 = .ok (.iadd, 1) := by decide +kernel
theorem dX12_joinMisra_180 : decode cX12_joinMisra 180 = .ok (.aload_n 0, 1) := by decide +kernel
theorem dX12_joinMisra_181 : decode cX12_joinMisra 181 = .ok (.getfield 69, 3) := by decide +kernel
theorem dX12_joinMisra_184 : decode cX12_joinMisra 184 = .ok (.iload 5, 2) := by decide +kernel
theorem dX12_joinMisra_186 : decode cX12_joinMisra 186 = .ok (.iaload, 1) := by decide +kernel
theorem dX12_joinMisra_187 : decode cX12_joinMisra 187 = .ok (.iastore, 1) := by decide +kernel
theorem dX12_joinMisra_188 : decode cX12_joinMisra 188 = .ok (.aload_n 0, 1) := by decide +kernel
theorem dX12_joinMisra_189 : decode cX12_joinMisra 189 = .ok (.getfield 35, 3) := by decide +kernel
theorem dX12_joinMisra_192 : decode cX12_joinMisra 192 = .ok (.bipush 64, 2) := by decide +kernel
theorem dX12_joinMisra_194 : decode cX12_joinMisra 194 = .ok (.iload_n 1, 1) := by decide +kernel
theorem dX12_joinMisra_195 : decode cX12_joinMisra 195 = .ok (.imul, 1) := by decide +kernel
theorem dX12_joinMisra_196 : decode cX12_joinMisra 196 = .ok (.aload_n 0, 1) := by decide +kernel
theorem dX12_joinMisra_197 : decode cX12_joinMisra 197 = .ok (.getfield 26, 3) := by decide +kernel
theorem dX12_joinMisra_200 : decode cX12_joinMisra 200 = .ok (.iload_n 1, 1) := by decide +kernel
theorem dX12_joinMisra_201 : decode cX12_joinMisra 201 = .ok (.iaload, 1) := by decide +kernel
theorem dX12_joinMisra_202 : decode cX12_joinMisra 202 = .ok (.iadd, 1) := by decide +kernel
theorem dX12_joinMisra_203 : decode cX12_joinMisra 203 = .ok (.aload_n 0, 1) := by decide +kernel
theorem dX12_joinMisra_204 : decode cX12_joinMisra 204 = .ok (.getfield 72, 3) := by decide +kernel
theorem dX12_joinMisra_207 : decode cX12_joinMisra 207 = .ok (.iload 5, 2) := by decide +kernel
theorem dX12_joinMisra_209 : decode cX12_joinMisra 209 = .ok (.laload, 1) := by decide +kernel
theorem dX12_joinMisra_210 : decode cX12_joinMisra 210 = .ok (.lload_n 3, 1) := by decide +kernel
theorem dX12_joinMisra_211 : decode cX12_joinMisra 211 = .ok (.lsub, 1) := by decide +kernel
theorem dX12_joinMisra_212 : decode cX12_joinMisra 212 = .ok (.lastore, 1) := by decide +kernel
theorem dX12_joinMisra_213 : decode cX12_joinMisra 213 = .ok (.aload_n 0, 1) := by decide +kernel
theorem dX12_joinMisra_214 : decode cX12_joinMisra 214 = .ok (.getfield 26, 3) := by decide +kernel
theorem dX12_joinMisra_217 : decode cX12_joinMisra 217 = .ok (.iload_n 1, 1) := by decide +kernel
theorem dX12_joinMisra_218 : decode cX12_joinMisra 218 = .ok (.dup2, 1) := by decide +kernel
theorem dX12_joinMisra_219 : decode cX12_joinMisra 219 = .ok (.iaload, 1) := by decide +kernel
theorem dX12_joinMisra_220 : decode cX12_joinMisra 220 = .ok (.iconst 1, 1) := by decide +kernel
theorem dX12_joinMisra_221 : decode cX12_joinMisra 221 = .ok (.iadd, 1) := by decide +kernel
theorem dX12_joinMisra_222 : decode cX12_joinMisra 222 = .ok (.iastore, 1) := by decide +kernel
theorem dX12_joinMisra_223 : decode cX12_joinMisra 223 = .ok (.iinc 5 1, 3) := by decide +kernel
theorem dX12_joinMisra_226 : decode cX12_joinMisra 226 = .ok (.goto (-82), 3) := by decide +kernel
theorem dX12_joinMisra_229 : decode cX12_joinMisra 229 = .ok (.return_, 1) := by decide +kernel
theorem dX12_greatest_0 : decode cX12_greatest 0 = .ok (.lconst 0, 1) := by decide +kernel
theorem dX12_greatest_1 : decode cX12_greatest 1 = .ok (.lstore_n 2, 1) := by decide +kernel
theorem dX12_greatest_2 : decode cX12_greatest 2 = .ok (.iconst 0, 1) := by decide +kernel
theorem dX12_greatest_3 : decode cX12_greatest 3 = .ok (.istore 4, 2) := by decide +kernel
theorem dX12_greatest_5 : decode cX12_greatest 5 = .ok (.iload 4, 2) := by decide +kernel
theorem dX12_greatest_7 : decode cX12_greatest 7 = .ok (.aload_n 0, 1) := by decide +kernel
theorem dX12_greatest_8 : decode cX12_greatest 8 = .ok (.getfield 156, 3) := by decide +kernel
theorem dX12_greatest_11 : decode cX12_greatest 11 = .ok (.if_icmp .ge 116, 3) := by decide +kernel
theorem dX12_greatest_14 : decode cX12_greatest 14 = .ok (.iconst 0, 1) := by decide +kernel
theorem dX12_greatest_15 : decode cX12_greatest 15 = .ok (.istore 5, 2) := by decide +kernel
theorem dX12_greatest_17 : decode cX12_greatest 17 = .ok (.iconst 0, 1) := by decide +kernel
theorem dX12_greatest_18 : decode cX12_greatest 18 = .ok (.istore 6, 2) := by decide +kernel
theorem dX12_greatest_20 : decode cX12_greatest 20 = .ok (.iconst 0, 1) := by decide +kernel
theorem dX12_greatest_21 : decode cX12_greatest 21 = .ok (.istore 7, 2) := by decide +kernel
theorem dX12_greatest_23 : decode cX12_greatest 23 = .ok (.iload 7, 2) := by decide +kernel
theorem dX12_greatest_25 : decode cX12_greatest 25 = .ok (.aload_n 0, 1) := by decide +kernel
theorem dX12_greatest_26 : decode cX12_greatest 26 = .ok (.getfield 156, 3) := by decide +kernel
theorem dX12_greatest_29 : decode cX12_greatest 29 = .ok (.if_icmp .ge 65, 3) := by decide +kernel
theorem dX12_greatest_32 : decode cX12_greatest 32 = .ok (.iload 5, 2) := by decide +kernel
theorem dX12_greatest_34 : decode cX12_greatest 34 = .ok (.aload_n 0, 1) := by decide +kernel
theorem dX12_greatest_35 : decode cX12_greatest 35 = .ok (.getfield 72, 3) := by decide +kernel
theorem dX12_greatest_38 : decode cX12_greatest 38 = .ok (.iload 7, 2) := by decide +kernel
theorem dX12_greatest_40 : decode cX12_greatest 40 = .ok (.laload, 1) := by decide +kernel
theorem dX12_greatest_41 : decode cX12_greatest 41 = .ok (.aload_n 0, 1) := by decide +kernel
theorem dX12_greatest_42 : decode cX12_greatest 42 = .ok (.getfield 72, 3) := by decide +kernel
theorem dX12_greatest_45 : decode cX12_greatest 45 = .ok (.iload 4, 2) := by decide +kernel
theorem dX12_greatest_47 : decode cX12_greatest 47 = .ok (.laload, 1) := by decide +kernel
theorem dX12_greatest_48 : decode cX12_greatest 48 = .ok (.lcmp, 1) := by decide +kernel
theorem dX12_greatest_49 : decode cX12_greatest 49 = .ok (.ifCond .le 7, 3) := by decide +kernel
theorem dX12_greatest_52 : decode cX12_greatest 52 = .ok (.iconst 1, 1) := by decide +kernel
theorem dX12_greatest_53 : decode cX12_greatest 53 = .ok (.goto 4, 3) := by decide +kernel
theorem dX12_greatest_56 : decode cX12_greatest 56 = .ok (.iconst 0, 1) := by decide +kernel
theorem dX12_greatest_57 : decode cX12_greatest 57 = .ok (.iadd, 1) := by decide +kernel
theorem dX12_greatest_58 : decode cX12_greatest 58 = .ok (.istore 5, 2) := by decide +kernel
theorem dX12_greatest_60 : decode cX12_greatest 60 = .ok (.iload 6, 2) := by decide +kernel
theorem dX12_greatest_62 : decode cX12_greatest 62 = .ok (.aload_n 0, 1) := by decide +kernel
theorem dX12_greatest_63 : decode cX12_greatest 63 = .ok (.getfield 72, 3) := by decide +kernel
theorem dX12_greatest_66 : decode cX12_greatest 66 = .ok (.iload 7, 2) := by decide +kernel
theorem dX12_greatest_68 : decode cX12_greatest 68 = .ok (.laload, 1) := by decide +kernel
theorem dX12_greatest_69 : decode cX12_greatest 69 = .ok (.aload_n 0, 1) := by decide +kernel
theorem dX12_greatest_70 : decode cX12_greatest 70 = .ok (.getfield 72, 3) := by decide +kernel
theorem dX12_greatest_73 : decode cX12_greatest 73 = .ok (.iload 4, 2) := by decide +kernel
theorem dX12_greatest_75 : decode cX12_greatest 75 = .ok (.laload, 1) := by decide +kernel
theorem dX12_greatest_76 : decode cX12_greatest 76 = .ok (.lcmp, 1) := by decide +kernel
theorem dX12_greatest_77 : decode cX12_greatest 77 = .ok (.ifCond .ne 7, 3) := by decide +kernel
theorem dX12_greatest_80 : decode cX12_greatest 80 = .ok (.iconst 1, 1) := by decide +kernel
theorem dX12_greatest_81 : decode cX12_greatest 81 = .ok (.goto 4, 3) := by decide +kernel
theorem dX12_greatest_84 : decode cX12_greatest 84 = .ok (.iconst 0, 1) := by decide +kernel
theorem dX12_greatest_85 : decode cX12_greatest 85 = .ok (.iadd, 1) := by decide +kernel
theorem dX12_greatest_86 : decode cX12_greatest 86 = .ok (.istore 6, 2) := by decide +kernel
theorem dX12_greatest_88 : decode cX12_greatest 88 = .ok (.iinc 7 1, 3) := by decide +kernel
theorem dX12_greatest_91 : decode cX12_greatest 91 = .ok (.goto (-68), 3) := by decide +kernel
theorem dX12_greatest_94 : decode cX12_greatest 94 = .ok (.iload 5, 2) := by decide +kernel
theorem dX12_greatest_96 : decode cX12_greatest 96 = .ok (.iload_n 1, 1) := by decide +kernel
theorem dX12_greatest_97 : decode cX12_greatest 97 = .ok (.if_icmp .ge 22, 3) := by decide +kernel
theorem dX12_greatest_100 : decode cX12_greatest 100 = .ok (.iload 5, 2) := by decide +kernel
theorem dX12_greatest_102 : decode cX12_greatest 102 = .ok (.iload 6, 2) := by decide +kernel
theorem dX12_greatest_104 : decode cX12_greatest 104 = .ok (.iadd, 1) := by decide +kernel
theorem dX12_greatest_105 : decode cX12_greatest 105 = .ok (.iload_n 1, 1) := by decide +kernel
theorem dX12_greatest_106 : decode cX12_greatest 106 = .ok (.if_icmp .lt 13, 3) := by decide +kernel
theorem dX12_greatest_109 : decode cX12_greatest 109 = .ok (.aload_n 0, 1) := by decide +kernel
theorem dX12_greatest_110 : decode cX12_greatest 110 = .ok (.getfield 72, 3) := by decide +kernel
theorem dX12_greatest_113 : decode cX12_greatest 113 = .ok (.iload 4, 2) := by decide +kernel
theorem dX12_greatest_115 : decode cX12_greatest 115 = .ok (.laload, 1) := by decide +kernel
theorem dX12_greatest_116 : decode cX12_greatest 116 = .ok (.goto 4, 3) := by decide +kernel
theorem dX12_greatest_119 : decode cX12_greatest 119 = .ok (.lload_n 2, 1) := by decide +kernel
theorem dX12_greatest_120 : decode cX12_greatest 120 = .ok (.lstore_n 2, 1) := by decide +kernel
theorem dX12_greatest_121 : decode cX12_greatest 121 = .ok (.iinc 4 1, 3) := by decide +kernel
theorem dX12_greatest_124 : decode cX12_greatest 124 = .ok (.goto (-119), 3) := by decide +kernel
theorem dX12_greatest_127 : decode cX12_greatest 127 = .ok (.lload_n 2, 1) := by decide +kernel
theorem dX12_greatest_128 : decode cX12_greatest 128 = .ok (.lreturn, 1) := by decide +kernel
theorem dX12_least_0 : decode cX12_least 0 = .ok (.aload_n 0, 1) := by decide +kernel
theorem dX12_least_1 : decode cX12_least 1 = .ok (.getfield 38, 3) := by decide +kernel
theorem dX12_least_4 : decode cX12_least 4 = .ok (.iload_n 1, 1) := by decide +kernel
theorem dX12_least_5 : decode cX12_least 5 = .ok (.iaload, 1) := by decide +kernel
theorem dX12_least_6 : decode cX12_least 6 = .ok (.aload_n 0, 1) := by decide +kernel
theorem dX12_least_7 : decode cX12_least 7 = .ok (.getfield 97, 3) := by decide +kernel
theorem dX12_least_10 : decode cX12_least 10 = .ok (.if_icmp .ne 15, 3) := by decide +kernel
theorem dX12_least_13 : decode cX12_least 13 = .ok (.aload_n 0, 1) := by decide +kernel
theorem dX12_least_14 : decode cX12_least 14 = .ok (.getfield 44, 3) := by decide +kernel
theorem dX12_least_17 : decode cX12_least 17 = .ok (.bipush 64, 2) := by decide +kernel
theorem dX12_least_19 : decode cX12_least 19 = .ok (.iload_n 1, 1) := by decide +kernel
theorem dX12_least_20 : decode cX12_least 20 = .ok (.imul, 1) := by decide +kernel
theorem dX12_least_21 : decode cX12_least 21 = .ok (.laload, 1) := by decide +kernel
theorem dX12_least_22 : decode cX12_least 22 = .ok (.goto 4, 3) := by decide +kernel
theorem dX12_least_25 : decode cX12_least 25 = .ok (.lconst 0, 1) := by decide +kernel
theorem dX12_least_26 : decode cX12_least 26 = .ok (.lreturn, 1) := by decide +kernel
theorem dX12_joinSaving_0 : decode cX12_joinSaving 0 = .ok (.aload_n 0, 1) := by decide +kernel
theorem dX12_joinSaving_1 : decode cX12_joinSaving 1 = .ok (.iconst 0, 1) := by decide +kernel
theorem dX12_joinSaving_2 : decode cX12_joinSaving 2 = .ok (.putfield 156, 3) := by decide +kernel
theorem dX12_joinSaving_5 : decode cX12_joinSaving 5 = .ok (.bipush 64, 2) := by decide +kernel
theorem dX12_joinSaving_7 : decode cX12_joinSaving 7 = .ok (.iload_n 1, 1) := by decide +kernel
theorem dX12_joinSaving_8 : decode cX12_joinSaving 8 = .ok (.imul, 1) := by decide +kernel
theorem dX12_joinSaving_9 : decode cX12_joinSaving 9 = .ok (.istore_n 3, 1) := by decide +kernel
theorem dX12_joinSaving_10 : decode cX12_joinSaving 10 = .ok (.iload_n 3, 1) := by decide +kernel
theorem dX12_joinSaving_11 : decode cX12_joinSaving 11 = .ok (.bipush 64, 2) := by decide +kernel
theorem dX12_joinSaving_13 : decode cX12_joinSaving 13 = .ok (.iload_n 1, 1) := by decide +kernel
theorem dX12_joinSaving_14 : decode cX12_joinSaving 14 = .ok (.imul, 1) := by decide +kernel
theorem dX12_joinSaving_15 : decode cX12_joinSaving 15 = .ok (.aload_n 0, 1) := by decide +kernel
theorem dX12_joinSaving_16 : decode cX12_joinSaving 16 = .ok (.getfield 38, 3) := by decide +kernel
theorem dX12_joinSaving_19 : decode cX12_joinSaving 19 = .ok (.iload_n 1, 1) := by decide +kernel
theorem dX12_joinSaving_20 : decode cX12_joinSaving 20 = .ok (.iaload, 1) := by decide +kernel
theorem dX12_joinSaving_21 : decode cX12_joinSaving 21 = .ok (.iadd, 1) := by decide +kernel
theorem dX12_joinSaving_22 : decode cX12_joinSaving 22 = .ok (.if_icmp .ge 86, 3) := by decide +kernel
theorem dX12_joinSaving_25 : decode cX12_joinSaving 25 = .ok (.aload_n 0, 1) := by decide +kernel
theorem dX12_joinSaving_26 : decode cX12_joinSaving 26 = .ok (.iload_n 2, 1) := by decide +kernel
theorem dX12_joinSaving_27 : decode cX12_joinSaving 27 = .ok (.aload_n 0, 1) := by decide +kernel
theorem dX12_joinSaving_28 : decode cX12_joinSaving 28 = .ok (.getfield 41, 3) := by decide +kernel
theorem dX12_joinSaving_31 : decode cX12_joinSaving 31 = .ok (.iload_n 3, 1) := by decide +kernel
theorem dX12_joinSaving_32 : decode cX12_joinSaving 32 = .ok (.iaload, 1) := by decide +kernel
theorem dX12_joinSaving_33 : decode cX12_joinSaving 33 = .ok (.invokevirtual 137, 3) := by decide +kernel
theorem dX12_joinSaving_36 : decode cX12_joinSaving 36 = .ok (.istore 4, 2) := by decide +kernel
theorem dX12_joinSaving_38 : decode cX12_joinSaving 38 = .ok (.aload_n 0, 1) := by decide +kernel
theorem dX12_joinSaving_39 : decode cX12_joinSaving 39 = .ok (.aload_n 0, 1) := by decide +kernel
theorem dX12_joinSaving_40 : decode cX12_joinSaving 40 = .ok (.getfield 41, 3) := by decide +kernel
theorem dX12_joinSaving_43 : decode cX12_joinSaving 43 = .ok (.iload_n 3, 1) := by decide +kernel
theorem dX12_joinSaving_44 : decode cX12_joinSaving 44 = .ok (.iaload, 1) := by decide +kernel
theorem dX12_joinSaving_45 : decode cX12_joinSaving 45 = .ok (.aload_n 0, 1) := by decide +kernel
theorem dX12_joinSaving_46 : decode cX12_joinSaving 46 = .ok (.getfield 44, 3) := by decide +kernel
theorem dX12_joinSaving_49 : decode cX12_joinSaving 49 = .ok (.iload_n 3, 1) := by decide +kernel
theorem dX12_joinSaving_50 : decode cX12_joinSaving 50 = .ok (.laload, 1) := by decide +kernel
theorem dX12_joinSaving_51 : decode cX12_joinSaving 51 = .ok (.iload 4, 2) := by decide +kernel
theorem dX12_joinSaving_53 : decode cX12_joinSaving 53 = .ok (.ifCond .ge 11, 3) := by decide +kernel
theorem dX12_joinSaving_56 : decode cX12_joinSaving 56 = .ok (.aload_n 0, 1) := by decide +kernel
theorem dX12_joinSaving_57 : decode cX12_joinSaving 57 = .ok (.iload_n 2, 1) := by decide +kernel
theorem dX12_joinSaving_58 : decode cX12_joinSaving 58 = .ok (.invokevirtual 180, 3) := by decide +kernel
theorem dX12_joinSaving_61 : decode cX12_joinSaving 61 = .ok (.goto 10, 3) := by decide +kernel
theorem dX12_joinSaving_64 : decode cX12_joinSaving 64 = .ok (.aload_n 0, 1) := by decide +kernel
theorem dX12_joinSaving_65 : decode cX12_joinSaving 65 = .ok (.getfield 44, 3) := by decide +kernel
theorem dX12_joinSaving_68 : decode cX12_joinSaving 68 = .ok (.iload 4, 2) := by decide +kernel
theorem dX12_joinSaving_70 : decode cX12_joinSaving 70 = .ok (.laload, 1) := by decide +kernel
theorem dX12_joinSaving_71 : decode cX12_joinSaving 71 = .ok (.ladd, 1) := by decide +kernel
theorem dX12_joinSaving_72 : decode cX12_joinSaving 72 = .ok (.aload_n 0, 1) := by decide +kernel
theorem dX12_joinSaving_73 : decode cX12_joinSaving 73 = .ok (.getfield 47, 3) := by decide +kernel
theorem dX12_joinSaving_76 : decode cX12_joinSaving 76 = .ok (.iload_n 3, 1) := by decide +kernel
theorem dX12_joinSaving_77 : decode cX12_joinSaving 77 = .ok (.laload, 1) := by decide +kernel
theorem dX12_joinSaving_78 : decode cX12_joinSaving 78 = .ok (.iload 4, 2) := by decide +kernel
theorem dX12_joinSaving_80 : decode cX12_joinSaving 80 = .ok (.ifCond .ge 11, 3) := by decide +kernel
theorem dX12_joinSaving_83 : decode cX12_joinSaving 83 = .ok (.aload_n 0, 1) := by decide +kernel
theorem dX12_joinSaving_84 : decode cX12_joinSaving 84 = .ok (.iload_n 2, 1) := by decide +kernel
theorem dX12_joinSaving_85 : decode cX12_joinSaving 85 = .ok (.invokevirtual 180, 3) := by decide +kernel
theorem dX12_joinSaving_88 : decode cX12_joinSaving 88 = .ok (.goto 10, 3) := by decide +kernel
theorem dX12_joinSaving_91 : decode cX12_joinSaving 91 = .ok (.aload_n 0, 1) := by decide +kernel
theorem dX12_joinSaving_92 : decode cX12_joinSaving 92 = .ok (.getfield 47, 3) := by decide +kernel
theorem dX12_joinSaving_95 : decode cX12_joinSaving 95 = .ok (.iload 4, 2) := by decide +kernel
theorem dX12_joinSaving_97 : decode cX12_joinSaving 97 = .ok (.laload, 1) := by decide +kernel
theorem dX12_joinSaving_98 : decode cX12_joinSaving 98 = .ok (.ladd, 1) := by decide +kernel
theorem dX12_joinSaving_99 : decode cX12_joinSaving 99 = .ok (.invokevirtual 172, 3) := by decide +kernel
theorem dX12_joinSaving_102 : decode cX12_joinSaving 102 = .ok (.iinc 3 1, 3) := by decide +kernel
theorem dX12_joinSaving_105 : decode cX12_joinSaving 105 = .ok (.goto (-95), 3) := by decide +kernel
theorem dX12_joinSaving_108 : decode cX12_joinSaving 108 = .ok (.bipush 64, 2) := by decide +kernel
theorem dX12_joinSaving_110 : decode cX12_joinSaving 110 = .ok (.iload_n 2, 1) := by decide +kernel
theorem dX12_joinSaving_111 : decode cX12_joinSaving 111 = .ok (.imul, 1) := by decide +kernel
theorem dX12_joinSaving_112 : decode cX12_joinSaving 112 = .ok (.istore_n 3, 1) := by decide +kernel
theorem dX12_joinSaving_113 : decode cX12_joinSaving 113 = .ok (.iload_n 3, 1) := by decide +kernel
theorem dX12_joinSaving_114 : decode cX12_joinSaving 114 = .ok (.bipush 64, 2) := by decide +kernel
theorem dX12_joinSaving_116 : decode cX12_joinSaving 116 = .ok (.iload_n 2, 1) := by decide +kernel
theorem dX12_joinSaving_117 : decode cX12_joinSaving 117 = .ok (.imul, 1) := by decide +kernel
theorem dX12_joinSaving_118 : decode cX12_joinSaving 118 = .ok (.aload_n 0, 1) := by decide +kernel
theorem dX12_joinSaving_119 : decode cX12_joinSaving 119 = .ok (.getfield 38, 3) := by decide +kernel
theorem dX12_joinSaving_122 : decode cX12_joinSaving 122 = .ok (.iload_n 2, 1) := by decide +kernel
theorem dX12_joinSaving_123 : decode cX12_joinSaving 123 = .ok (.iaload, 1) := by decide +kernel
theorem dX12_joinSaving_124 : decode cX12_joinSaving 124 = .ok (.iadd, 1) := by decide +kernel
theorem dX12_joinSaving_125 : decode cX12_joinSaving 125 = .ok (.if_icmp .ge 57, 3) := by decide +kernel
theorem dX12_joinSaving_128 : decode cX12_joinSaving 128 = .ok (.aload_n 0, 1) := by decide +kernel
theorem dX12_joinSaving_129 : decode cX12_joinSaving 129 = .ok (.iload_n 1, 1) := by decide +kernel
theorem dX12_joinSaving_130 : decode cX12_joinSaving 130 = .ok (.aload_n 0, 1) := by decide +kernel
theorem dX12_joinSaving_131 : decode cX12_joinSaving 131 = .ok (.getfield 41, 3) := by decide +kernel
theorem dX12_joinSaving_134 : decode cX12_joinSaving 134 = .ok (.iload_n 3, 1) := by decide +kernel
theorem dX12_joinSaving_135 : decode cX12_joinSaving 135 = .ok (.iaload, 1) := by decide +kernel
theorem dX12_joinSaving_136 : decode cX12_joinSaving 136 = .ok (.invokevirtual 137, 3) := by decide +kernel
theorem dX12_joinSaving_139 : decode cX12_joinSaving 139 = .ok (.ifCond .ge 37, 3) := by decide +kernel
theorem dX12_joinSaving_142 : decode cX12_joinSaving 142 = .ok (.aload_n 0, 1) := by decide +kernel
theorem dX12_joinSaving_143 : decode cX12_joinSaving 143 = .ok (.aload_n 0, 1) := by decide +kernel
theorem dX12_joinSaving_144 : decode cX12_joinSaving 144 = .ok (.getfield 41, 3) := by decide +kernel
theorem dX12_joinSaving_147 : decode cX12_joinSaving 147 = .ok (.iload_n 3, 1) := by decide +kernel
theorem dX12_joinSaving_148 : decode cX12_joinSaving 148 = .ok (.iaload, 1) := by decide +kernel
theorem dX12_joinSaving_149 : decode cX12_joinSaving 149 = .ok (.aload_n 0, 1) := by decide +kernel
theorem dX12_joinSaving_150 : decode cX12_joinSaving 150 = .ok (.getfield 44, 3) := by decide +kernel
theorem dX12_joinSaving_153 : decode cX12_joinSaving 153 = .ok (.iload_n 3, 1) := by decide +kernel
theorem dX12_joinSaving_154 : decode cX12_joinSaving 154 = .ok (.laload, 1) := by decide +kernel
theorem dX12_joinSaving_155 : decode cX12_joinSaving 155 = .ok (.aload_n 0, 1) := by decide +kernel
theorem dX12_joinSaving_156 : decode cX12_joinSaving 156 = .ok (.iload_n 1, 1) := by decide +kernel
theorem dX12_joinSaving_157 : decode cX12_joinSaving 157 = .ok (.invokevirtual 180, 3) := by decide +kernel
theorem dX12_joinSaving_160 : decode cX12_joinSaving 160 = .ok (.ladd, 1) := by decide +kernel
theorem dX12_joinSaving_161 : decode cX12_joinSaving 161 = .ok (.aload_n 0, 1) := by decide +kernel
theorem dX12_joinSaving_162 : decode cX12_joinSaving 162 = .ok (.getfield 47, 3) := by decide +kernel
theorem dX12_joinSaving_165 : decode cX12_joinSaving 165 = .ok (.iload_n 3, 1) := by decide +kernel
theorem dX12_joinSaving_166 : decode cX12_joinSaving 166 = .ok (.laload, 1) := by decide +kernel
theorem dX12_joinSaving_167 : decode cX12_joinSaving 167 = .ok (.aload_n 0, 1) := by decide +kernel
theorem dX12_joinSaving_168 : decode cX12_joinSaving 168 = .ok (.iload_n 1, 1) := by decide +kernel
theorem dX12_joinSaving_169 : decode cX12_joinSaving 169 = .ok (.invokevirtual 180, 3) := by decide +kernel
theorem dX12_joinSaving_172 : decode cX12_joinSaving 172 = .ok (.ladd, 1) := by decide +kernel
theorem dX12_joinSaving_173 : decode cX12_joinSaving 173 = .ok (.invokevirtual 172, 3) := by decide +kernel
theorem dX12_joinSaving_176 : decode cX12_joinSaving 176 = .ok (.iinc 3 1, 3) := by decide +kernel
theorem dX12_joinSaving_179 : decode cX12_joinSaving 179 = .ok (.goto (-66), 3) := by decide +kernel
theorem dX12_joinSaving_182 : decode cX12_joinSaving 182 = .ok (.aload_n 0, 1) := by decide +kernel
theorem dX12_joinSaving_183 : decode cX12_joinSaving 183 = .ok (.getfield 156, 3) := by decide +kernel
theorem dX12_joinSaving_186 : decode cX12_joinSaving 186 = .ok (.aload_n 0, 1) := by decide +kernel
theorem dX12_joinSaving_187 : decode cX12_joinSaving 187 = .ok (.getfield 97, 3) := by decide +kernel
theorem dX12_joinSaving_190 : decode cX12_joinSaving 190 = .ok (.if_icmp .ge 10, 3) := by decide +kernel
theorem dX12_joinSaving_193 : decode cX12_joinSaving 193 = .ok (.aload_n 0, 1) := by decide +kernel
theorem dX12_joinSaving_194 : decode cX12_joinSaving 194 = .ok (.getfield 156, 3) := by decide +kernel
theorem dX12_joinSaving_197 : decode cX12_joinSaving 197 = .ok (.goto 7, 3) := by decide +kernel
theorem dX12_joinSaving_200 : decode cX12_joinSaving 200 = .ok (.aload_n 0, 1) := by decide +kernel
theorem dX12_joinSaving_201 : decode cX12_joinSaving 201 = .ok (.getfield 97, 3) := by decide +kernel
theorem dX12_joinSaving_204 : decode cX12_joinSaving 204 = .ok (.istore_n 3, 1) := by decide +kernel
theorem dX12_joinSaving_205 : decode cX12_joinSaving 205 = .ok (.aload_n 0, 1) := by decide +kernel
theorem dX12_joinSaving_206 : decode cX12_joinSaving 206 = .ok (.getfield 38, 3) := by decide +kernel
theorem dX12_joinSaving_209 : decode cX12_joinSaving 209 = .ok (.iload_n 1, 1) := by decide +kernel
theorem dX12_joinSaving_210 : decode cX12_joinSaving 210 = .ok (.iload_n 3, 1) := by decide +kernel
theorem dX12_joinSaving_211 : decode cX12_joinSaving 211 = .ok (.iastore, 1) := by decide +kernel
theorem dX12_joinSaving_212 : decode cX12_joinSaving 212 = .ok (.iconst 0, 1) := by decide +kernel
theorem dX12_joinSaving_213 : decode cX12_joinSaving 213 = .ok (.istore 4, 2) := by decide +kernel
theorem dX12_joinSaving_215 : decode cX12_joinSaving 215 = .ok (.iload 4, 2) := by decide +kernel
theorem dX12_joinSaving_217 : decode cX12_joinSaving 217 = .ok (.iload_n 3, 1) := by decide +kernel
theorem dX12_joinSaving_218 : decode cX12_joinSaving 218 = .ok (.if_icmp .ge 183, 3) := by decide +kernel
theorem dX12_joinSaving_221 : decode cX12_joinSaving 221 = .ok (.iconst (-1), 1) := by decide +kernel
theorem dX12_joinSaving_222 : decode cX12_joinSaving 222 = .ok (.istore 5, 2) := by decide +kernel
theorem dX12_joinSaving_224 : decode cX12_joinSaving 224 = .ok (.iconst 0, 1) := by decide +kernel
theorem dX12_joinSaving_225 : decode cX12_joinSaving 225 = .ok (.istore 6, 2) := by decide +kernel
theorem dX12_joinSaving_227 : decode cX12_joinSaving 227 = .ok (.iload 6, 2) := by decide +kernel
theorem dX12_joinSaving_229 : decode cX12_joinSaving 229 = .ok (.aload_n 0, 1) := by decide +kernel
theorem dX12_joinSaving_230 : decode cX12_joinSaving 230 = .ok (.getfield 156, 3) := by decide +kernel
theorem dX12_joinSaving_233 : decode cX12_joinSaving 233 = .ok (.if_icmp .ge 83, 3) := by decide +kernel
theorem dX12_joinSaving_236 : decode cX12_joinSaving 236 = .ok (.aload_n 0, 1) := by decide +kernel
theorem dX12_joinSaving_237 : decode cX12_joinSaving 237 = .ok (.getfield 72, 3) := by decide +kernel
theorem dX12_joinSaving_240 : decode cX12_joinSaving 240 = .ok (.iload 6, 2) := by decide +kernel
theorem dX12_joinSaving_242 : decode cX12_joinSaving 242 = .ok (.laload, 1) := by decide +kernel
theorem dX12_joinSaving_243 : decode cX12_joinSaving 243 = .ok (.lconst 0, 1) := by decide +kernel
theorem dX12_joinSaving_244 : decode cX12_joinSaving 244 = .ok (.lcmp, 1) := by decide +kernel
theorem dX12_joinSaving_245 : decode cX12_joinSaving 245 = .ok (.ifCond .lt 65, 3) := by decide +kernel
theorem dX12_joinSaving_248 : decode cX12_joinSaving 248 = .ok (.iload 5, 2) := by decide +kernel
theorem dX12_joinSaving_250 : decode cX12_joinSaving 250 = .ok (.ifCond .lt 56, 3) := by decide +kernel
theorem dX12_joinSaving_253 : decode cX12_joinSaving 253 = .ok (.aload_n 0, 1) := by decide +kernel
theorem dX12_joinSaving_254 : decode cX12_joinSaving 254 = .ok (.getfield 72, 3) := by decide +kernel
theorem dX12_joinSaving_257 : decode cX12_joinSaving 257 = .ok (.iload 6, 2) := by decide +kernel
theorem dX12_joinSaving_259 : decode cX12_joinSaving 259 = .ok (.laload, 1) := by decide +kernel
theorem dX12_joinSaving_260 : decode cX12_joinSaving 260 = .ok (.aload_n 0, 1) := by decide +kernel
theorem dX12_joinSaving_261 : decode cX12_joinSaving 261 = .ok (.getfield 72, 3) := by decide +kernel
theorem dX12_joinSaving_264 : decode cX12_joinSaving 264 = .ok (.iload 5, 2) := by decide +kernel
theorem dX12_joinSaving_266 : decode cX12_joinSaving 266 = .ok (.laload, 1) := by decide +kernel
theorem dX12_joinSaving_267 : decode cX12_joinSaving 267 = .ok (.lcmp, 1) := by decide +kernel
theorem dX12_joinSaving_268 : decode cX12_joinSaving 268 = .ok (.ifCond .gt 38, 3) := by decide +kernel
theorem dX12_joinSaving_271 : decode cX12_joinSaving 271 = .ok (.aload_n 0, 1) := by decide +kernel
theorem dX12_joinSaving_272 : decode cX12_joinSaving 272 = .ok (.getfield 72, 3) := by decide +kernel
theorem dX12_joinSaving_275 : decode cX12_joinSaving 275 = .ok (.iload 6, 2) := by decide +kernel
theorem dX12_joinSaving_277 : decode cX12_joinSaving 277 = .ok (.laload, 1) := by decide +kernel
theorem dX12_joinSaving_278 : decode cX12_joinSaving 278 = .ok (.aload_n 0, 1) := by decide +kernel
theorem dX12_joinSaving_279 : decode cX12_joinSaving 279 = .ok (.getfield 72, 3) := by decide +kernel
theorem dX12_joinSaving_282 : decode cX12_joinSaving 282 = .ok (.iload 5, 2) := by decide +kernel
theorem dX12_joinSaving_284 : decode cX12_joinSaving 284 = .ok (.laload, 1) := by decide +kernel
theorem dX12_joinSaving_285 : decode cX12_joinSaving 285 = .ok (.lcmp, 1) := by decide +kernel
theorem dX12_joinSaving_286 : decode cX12_joinSaving 286 = .ok (.ifCond .ne 24, 3) := by decide +kernel
theorem dX12_joinSaving_289 : decode cX12_joinSaving 289 = .ok (.aload_n 0, 1) := by decide +kernel
theorem dX12_joinSaving_290 : decode cX12_joinSaving 290 = .ok (.getfield 69, 3) := by decide +kernel
theorem dX12_joinSaving_293 : decode cX12_joinSaving 293 = .ok (.iload 6, 2) := by decide +kernel
theorem dX12_joinSaving_295 : decode cX12_joinSaving 295 = .ok (.iaload, 1) := by decide +kernel
theorem dX12_joinSaving_296 : decode cX12_joinSaving 296 = .ok (.aload_n 0, 1) := by decide +kernel
theorem dX12_joinSaving_297 : decode cX12_joinSaving 297 = .ok (.getfield 69, 3) := by decide +kernel
theorem dX12_joinSaving_300 : decode cX12_joinSaving 300 = .ok (.iload 5, 2) := by decide +kernel
theorem dX12_joinSaving_302 : decode cX12_joinSaving 302 = .ok (.iaload, 1) := by decide +kernel
theorem dX12_joinSaving_303 : decode cX12_joinSaving 303 = .ok (.if_icmp .ge 7, 3) := by decide +kernel
theorem dX12_joinSaving_306 : decode cX12_joinSaving 306 = .ok (.iload 6, 2) := by decide +kernel
theorem dX12_joinSaving_308 : decode cX12_joinSaving 308 = .ok (.istore 5, 2) := by decide +kernel
theorem dX12_joinSaving_310 : decode cX12_joinSaving 310 = .ok (.iinc 6 1, 3) := by decide +kernel
theorem dX12_joinSaving_313 : decode cX12_joinSaving 313 = .ok (.goto (-86), 3) := by decide +kernel
theorem dX12_joinSaving_316 : decode cX12_joinSaving 316 = .ok (.aload_n 0, 1) := by decide +kernel
theorem dX12_joinSaving_317 : decode cX12_joinSaving 317 = .ok (.getfield 41, 3) := by decide +kernel
theorem dX12_joinSaving_320 : decode cX12_joinSaving 320 = .ok (.bipush 64, 2) := by decide +kernel
theorem dX12_joinSaving_322 : decode cX12_joinSaving 322 = .ok (.iload_n 1, 1) := by decide +kernel
theorem dX12_joinSaving_323 : decode cX12_joinSaving 323 = .ok (.imul, 1) := by decide +kernel
theorem dX12_joinSaving_324 : decode cX12_joinSaving 324 = .ok (.iload_n 3, 1) := by decide +kernel
theorem dX12_joinSaving_325 : decode cX12_joinSaving 325 = .ok (.iadd, 1) := by decide +kernel
theorem dX12_joinSaving_326 : decode cX12_joinSaving 326 = .ok (.iconst 1, 1) := by decide +kernel
theorem dX12_joinSaving_327 : decode cX12_joinSaving 327 = .ok (.isub, 1) := by decide +kernel
theorem dX12_joinSaving_328 : decode cX12_joinSaving 328 = .ok (.iload 4, 2) := by decide +kernel
theorem dX12_joinSaving_330 : decode cX12_joinSaving 330 = .ok (.isub, 1) := by decide +kernel
theorem dX12_joinSaving_331 : decode cX12_joinSaving 331 = .ok (.aload_n 0, 1) := by decide +kernel
theorem dX12_joinSaving_332 : decode cX12_joinSaving 332 = .ok (.getfield 69, 3) := by decide +kernel
theorem dX12_joinSaving_335 : decode cX12_joinSaving 335 = .ok (.iload 5, 2) := by decide +kernel
theorem dX12_joinSaving_337 : decode cX12_joinSaving 337 = .ok (.iaload, 1) := by decide +kernel
theorem dX12_joinSaving_338 : decode cX12_joinSaving 338 = .ok (.iastore, 1) := by decide +kernel
theorem dX12_joinSaving_339 : decode cX12_joinSaving 339 = .ok (.aload_n 0, 1) := by decide +kernel
theorem dX12_joinSaving_340 : decode cX12_joinSaving 340 = .ok (.getfield 44, 3) := by decide +kernel
theorem dX12_joinSaving_343 : decode cX12_joinSaving 343 = .ok (.bipush 64, 2) := by decide +kernel
theorem dX12_joinSaving_345 : decode cX12_joinSaving 345 = .ok (.iload_n 1, 1) := by decide +kernel
theorem dX12_joinSaving_346 : decode cX12_joinSaving 346 = .ok (.imul, 1) := by decide +kernel
theorem dX12_joinSaving_347 : decode cX12_joinSaving 347 = .ok (.iload_n 3, 1) := by decide +kernel
theorem dX12_joinSaving_348 : decode cX12_joinSaving 348 = .ok (.iadd, 1) := by decide +kernel
theorem dX12_joinSaving_349 : decode cX12_joinSaving 349 = .ok (.iconst 1, 1) := by decide +kernel
theorem dX12_joinSaving_350 : decode cX12_joinSaving 350 = .ok (.isub, 1) := by decide +kernel
theorem dX12_joinSaving_351 : decode cX12_joinSaving 351 = .ok (.iload 4, 2) := by decide +kernel
theorem dX12_joinSaving_353 : decode cX12_joinSaving 353 = .ok (.isub, 1) := by decide +kernel
theorem dX12_joinSaving_354 : decode cX12_joinSaving 354 = .ok (.aload_n 0, 1) := by decide +kernel
theorem dX12_joinSaving_355 : decode cX12_joinSaving 355 = .ok (.getfield 72, 3) := by decide +kernel
theorem dX12_joinSaving_358 : decode cX12_joinSaving 358 = .ok (.iload 5, 2) := by decide +kernel
theorem dX12_joinSaving_360 : decode cX12_joinSaving 360 = .ok (.laload, 1) := by decide +kernel
theorem dX12_joinSaving_361 : decode cX12_joinSaving 361 = .ok (.lastore, 1) := by decide +kernel
theorem dX12_joinSaving_362 : decode cX12_joinSaving 362 = .ok (.aload_n 0, 1) := by decide +kernel
theorem dX12_joinSaving_363 : decode cX12_joinSaving 363 = .ok (.getfield 47, 3) := by decide +kernel
theorem dX12_joinSaving_366 : decode cX12_joinSaving 366 = .ok (.bipush 64, 2) := by decide +kernel
theorem dX12_joinSaving_368 : decode cX12_joinSaving 368 = .ok (.iload_n 1, 1) := by decide +kernel
theorem dX12_joinSaving_369 : decode cX12_joinSaving 369 = .ok (.imul, 1) := by decide +kernel
theorem dX12_joinSaving_370 : decode cX12_joinSaving 370 = .ok (.iload_n 3, 1) := by decide +kernel
theorem dX12_joinSaving_371 : decode cX12_joinSaving 371 = .ok (.iadd, 1) := by decide +kernel
theorem dX12_joinSaving_372 : decode cX12_joinSaving 372 = .ok (.iconst 1, 1) := by decide +kernel
theorem dX12_joinSaving_373 : decode cX12_joinSaving 373 = .ok (.isub, 1) := by decide +kernel
theorem dX12_joinSaving_374 : decode cX12_joinSaving 374 = .ok (.iload 4, 2) := by decide +kernel
theorem dX12_joinSaving_376 : decode cX12_joinSaving 376 = .ok (.isub, 1) := by decide +kernel
theorem dX12_joinSaving_377 : decode cX12_joinSaving 377 = .ok (.aload_n 0, 1) := by decide +kernel
theorem dX12_joinSaving_378 : decode cX12_joinSaving 378 = .ok (.getfield 75, 3) := by decide +kernel
theorem dX12_joinSaving_381 : decode cX12_joinSaving 381 = .ok (.iload 5, 2) := by decide +kernel
theorem dX12_joinSaving_383 : decode cX12_joinSaving 383 = .ok (.laload, 1) := by decide +kernel
theorem dX12_joinSaving_384 : decode cX12_joinSaving 384 = .ok (.lastore, 1) := by decide +kernel
theorem dX12_joinSaving_385 : decode cX12_joinSaving 385 = .ok (.aload_n 0, 1) := by decide +kernel
theorem dX12_joinSaving_386 : decode cX12_joinSaving 386 = .ok (.getfield 72, 3) := by decide +kernel
theorem dX12_joinSaving_389 : decode cX12_joinSaving 389 = .ok (.iload 5, 2) := by decide +kernel
theorem dX12_joinSaving_391 : decode cX12_joinSaving 391 = .ok (.ldc2_w 151, 3) := by decide +kernel
theorem dX12_joinSaving_394 : decode cX12_joinSaving 394 = .ok (.lastore, 1) := by decide +kernel
theorem dX12_joinSaving_395 : decode cX12_joinSaving 395 = .ok (.iinc 4 1, 3) := by decide +kernel
theorem dX12_joinSaving_398 : decode cX12_joinSaving 398 = .ok (.goto (-183), 3) := by decide +kernel
theorem dX12_joinSaving_401 : decode cX12_joinSaving 401 = .ok (.aload_n 0, 1) := by decide +kernel
theorem dX12_joinSaving_402 : decode cX12_joinSaving 402 = .ok (.iload_n 1, 1) := by decide +kernel
theorem dX12_joinSaving_403 : decode cX12_joinSaving 403 = .ok (.invokevirtual 183, 3) := by decide +kernel
theorem dX12_joinSaving_406 : decode cX12_joinSaving 406 = .ok (.return_, 1) := by decide +kernel
theorem dX12_sortLike_0 : decode cX12_sortLike 0 = .ok (.bipush 64, 2) := by decide +kernel
theorem dX12_sortLike_2 : decode cX12_sortLike 2 = .ok (.iload_n 1, 1) := by decide +kernel
theorem dX12_sortLike_3 : decode cX12_sortLike 3 = .ok (.imul, 1) := by decide +kernel
theorem dX12_sortLike_4 : decode cX12_sortLike 4 = .ok (.iconst 1, 1) := by decide +kernel
theorem dX12_sortLike_5 : decode cX12_sortLike 5 = .ok (.iadd, 1) := by decide +kernel
theorem dX12_sortLike_6 : decode cX12_sortLike 6 = .ok (.istore_n 2, 1) := by decide +kernel
theorem dX12_sortLike_7 : decode cX12_sortLike 7 = .ok (.iload_n 2, 1) := by decide +kernel
theorem dX12_sortLike_8 : decode cX12_sortLike 8 = .ok (.bipush 64, 2) := by decide +kernel
theorem dX12_sortLike_10 : decode cX12_sortLike 10 = .ok (.iload_n 1, 1) := by decide +kernel
theorem dX12_sortLike_11 : decode cX12_sortLike 11 = .ok (.imul, 1) := by decide +kernel
theorem dX12_sortLike_12 : decode cX12_sortLike 12 = .ok (.aload_n 0, 1) := by decide +kernel
theorem dX12_sortLike_13 : decode cX12_sortLike 13 = .ok (.getfield 38, 3) := by decide +kernel
theorem dX12_sortLike_16 : decode cX12_sortLike 16 = .ok (.iload_n 1, 1) := by decide +kernel
theorem dX12_sortLike_17 : decode cX12_sortLike 17 = .ok (.iaload, 1) := by decide +kernel
theorem dX12_sortLike_18 : decode cX12_sortLike 18 = .ok (.iadd, 1) := by decide +kernel
theorem dX12_sortLike_19 : decode cX12_sortLike 19 = .ok (.if_icmp .ge 114, 3) := by decide +kernel
theorem dX12_sortLike_22 : decode cX12_sortLike 22 = .ok (.aload_n 0, 1) := by decide +kernel
theorem dX12_sortLike_23 : decode cX12_sortLike 23 = .ok (.getfield 41, 3) := by decide +kernel
theorem dX12_sortLike_26 : decode cX12_sortLike 26 = .ok (.iload_n 2, 1) := by decide +kernel
theorem dX12_sortLike_27 : decode cX12_sortLike 27 = .ok (.iaload, 1) := by decide +kernel
theorem dX12_sortLike_28 : decode cX12_sortLike 28 = .ok (.istore_n 3, 1) := by decide +kernel
theorem dX12_sortLike_29 : decode cX12_sortLike 29 = .ok (.aload_n 0, 1) := by decide +kernel
theorem dX12_sortLike_30 : decode cX12_sortLike 30 = .ok (.getfield 44, 3) := by decide +kernel
theorem dX12_sortLike_33 : decode cX12_sortLike 33 = .ok (.iload_n 2, 1) := by decide +kernel
theorem dX12_sortLike_34 : decode cX12_sortLike 34 = .ok (.laload, 1) := by decide +kernel
theorem dX12_sortLike_35 : decode cX12_sortLike 35 = .ok (.lstore 4, 2) := by decide +kernel
theorem dX12_sortLike_37 : decode cX12_sortLike 37 = .ok (.aload_n 0, 1) := by decide +kernel
theorem dX12_sortLike_38 : decode cX12_sortLike 38 = .ok (.getfield 47, 3) := by decide +kernel
theorem dX12_sortLike_41 : decode cX12_sortLike 41 = .ok (.iload_n 2, 1) := by decide +kernel
theorem dX12_sortLike_42 : decode cX12_sortLike 42 = .ok (.laload, 1) := by decide +kernel
theorem dX12_sortLike_43 : decode cX12_sortLike 43 = .ok (.lstore 6, 2) := by decide +kernel
theorem dX12_sortLike_45 : decode cX12_sortLike 45 = .ok (.iload_n 2, 1) := by decide +kernel
theorem dX12_sortLike_46 : decode cX12_sortLike 46 = .ok (.istore 8, 2) := by decide +kernel
theorem dX12_sortLike_48 : decode cX12_sortLike 48 = .ok (.iload 8, 2) := by decide +kernel
theorem dX12_sortLike_50 : decode cX12_sortLike 50 = .ok (.bipush 64, 2) := by decide +kernel
theorem dX12_sortLike_52 : decode cX12_sortLike 52 = .ok (.iload_n 1, 1) := by decide +kernel
theorem dX12_sortLike_53 : decode cX12_sortLike 53 = .ok (.imul, 1) := by decide +kernel
theorem dX12_sortLike_54 : decode cX12_sortLike 54 = .ok (.if_icmp .le 47, 3) := by decide +kernel
theorem dX12_sortLike_57 : decode cX12_sortLike 57 = .ok (.aload_n 0, 1) := by decide +kernel
theorem dX12_sortLike_58 : decode cX12_sortLike 58 = .ok (.getfield 44, 3) := by decide +kernel
theorem dX12_sortLike_61 : decode cX12_sortLike 61 = .ok (.iload 8, 2) := by decide +kernel
theorem dX12_sortLike_63 : decode cX12_sortLike 63 = .ok (.iconst 1, 1) := by decide +kernel
theorem dX12_sortLike_64 : decode cX12_sortLike 64 = .ok (.isub, 1) := by decide +kernel
theorem dX12_sortLike_65 : decode cX12_sortLike 65 = .ok (.laload, 1) := by decide +kernel
theorem dX12_sortLike_66 : decode cX12_sortLike 66 = .ok (.lload 4, 2) := by decide +kernel
theorem dX12_sortLike_68 : decode cX12_sortLike 68 = .ok (.lcmp, 1) := by decide +kernel
theorem dX12_sortLike_69 : decode cX12_sortLike 69 = .ok (.ifCond .ne 32, 3) := by decide +kernel
theorem dX12_sortLike_72 : decode cX12_sortLike 72 = .ok (.aload_n 0, 1) := by decide +kernel
theorem dX12_sortLike_73 : decode cX12_sortLike 73 = .ok (.getfield 41, 3) := by decide +kernel
theorem dX12_sortLike_76 : decode cX12_sortLike 76 = .ok (.iload 8, 2) := by decide +kernel
theorem dX12_sortLike_78 : decode cX12_sortLike 78 = .ok (.iconst 1, 1) := by decide +kernel
theorem dX12_sortLike_79 : decode cX12_sortLike 79 = .ok (.isub, 1) := by decide +kernel
theorem dX12_sortLike_80 : decode cX12_sortLike 80 = .ok (.iaload, 1) := by decide +kernel
theorem dX12_sortLike_81 : decode cX12_sortLike 81 = .ok (.iload_n 3, 1) := by decide +kernel
theorem dX12_sortLike_82 : decode cX12_sortLike 82 = .ok (.if_icmp .le 19, 3) := by decide +kernel
theorem dX12_sortLike_85 : decode cX12_sortLike 85 = .ok (.aload_n 0, 1) := by decide +kernel
theorem dX12_sortLike_86 : decode cX12_sortLike 86 = .ok (.iload 8, 2) := by decide +kernel
theorem dX12_sortLike_88 : decode cX12_sortLike 88 = .ok (.iconst 1, 1) := by decide +kernel
theorem dX12_sortLike_89 : decode cX12_sortLike 89 = .ok (.isub, 1) := by decide +kernel
theorem dX12_sortLike_90 : decode cX12_sortLike 90 = .ok (.iload 8, 2) := by decide +kernel
theorem dX12_sortLike_92 : decode cX12_sortLike 92 = .ok (.invokevirtual 140, 3) := by decide +kernel
theorem dX12_sortLike_95 : decode cX12_sortLike 95 = .ok (.iinc 8 (-1), 3) := by decide +kernel
theorem dX12_sortLike_98 : decode cX12_sortLike 98 = .ok (.goto (-50), 3) := by decide +kernel
theorem dX12_sortLike_101 : decode cX12_sortLike 101 = .ok (.aload_n 0, 1) := by decide +kernel
theorem dX12_sortLike_102 : decode cX12_sortLike 102 = .ok (.getfield 41, 3) := by decide +kernel
theorem dX12_sortLike_105 : decode cX12_sortLike 105 = .ok (.iload 8, 2) := by decide +kernel
theorem dX12_sortLike_107 : decode cX12_sortLike 107 = .ok (.iload_n 3, 1) := by decide +kernel
theorem dX12_sortLike_108 : decode cX12_sortLike 108 = .ok (.iastore, 1) := by decide +kernel
theorem dX12_sortLike_109 : decode cX12_sortLike 109 = .ok (.aload_n 0, 1) := by decide +kernel
theorem dX12_sortLike_110 : decode cX12_sortLike 110 = .ok (.getfield 44, 3) := by decide +kernel
theorem dX12_sortLike_113 : decode cX12_sortLike 113 = .ok (.iload 8, 2) := by decide +kernel
theorem dX12_sortLike_115 : decode cX12_sortLike 115 = .ok (.lload 4, 2) := by decide +kernel
theorem dX12_sortLike_117 : decode cX12_sortLike 117 = .ok (.lastore, 1) := by decide +kernel
theorem dX12_sortLike_118 : decode cX12_sortLike 118 = .ok (.aload_n 0, 1) := by decide +kernel
theorem dX12_sortLike_119 : decode cX12_sortLike 119 = .ok (.getfield 47, 3) := by decide +kernel
theorem dX12_sortLike_122 : decode cX12_sortLike 122 = .ok (.iload 8, 2) := by decide +kernel
theorem dX12_sortLike_124 : decode cX12_sortLike 124 = .ok (.lload 6, 2) := by decide +kernel
theorem dX12_sortLike_126 : decode cX12_sortLike 126 = .ok (.lastore, 1) := by decide +kernel
theorem dX12_sortLike_127 : decode cX12_sortLike 127 = .ok (.iinc 2 1, 3) := by decide +kernel
theorem dX12_sortLike_130 : decode cX12_sortLike 130 = .ok (.goto (-123), 3) := by decide +kernel
theorem dX12_sortLike_133 : decode cX12_sortLike 133 = .ok (.return_, 1) := by decide +kernel
theorem dX12_joinCounts_0 : decode cX12_joinCounts 0 = .ok (.aload_n 0, 1) := by decide +kernel
theorem dX12_joinCounts_1 : decode cX12_joinCounts 1 = .ok (.getfield 53, 3) := by decide +kernel
theorem dX12_joinCounts_4 : decode cX12_joinCounts 4 = .ok (.iload_n 1, 1) := by decide +kernel
theorem dX12_joinCounts_5 : decode cX12_joinCounts 5 = .ok (.baload, 1) := by decide +kernel
theorem dX12_joinCounts_6 : decode cX12_joinCounts 6 = .ok (.ifCond .ne 12, 3) := by decide +kernel
theorem dX12_joinCounts_9 : decode cX12_joinCounts 9 = .ok (.aload_n 0, 1) := by decide +kernel
theorem dX12_joinCounts_10 : decode cX12_joinCounts 10 = .ok (.getfield 53, 3) := by decide +kernel
theorem dX12_joinCounts_13 : decode cX12_joinCounts 13 = .ok (.iload_n 2, 1) := by decide +kernel
theorem dX12_joinCounts_14 : decode cX12_joinCounts 14 = .ok (.baload, 1) := by decide +kernel
theorem dX12_joinCounts_15 : decode cX12_joinCounts 15 = .ok (.ifCond .eq 11, 3) := by decide +kernel
theorem dX12_joinCounts_18 : decode cX12_joinCounts 18 = .ok (.aload_n 0, 1) := by decide +kernel
theorem dX12_joinCounts_19 : decode cX12_joinCounts 19 = .ok (.getfield 53, 3) := by decide +kernel
theorem dX12_joinCounts_22 : decode cX12_joinCounts 22 = .ok (.iload_n 1, 1) := by decide +kernel
theorem dX12_joinCounts_23 : decode cX12_joinCounts 23 = .ok (.iconst 1, 1) := by decide +kernel
theorem dX12_joinCounts_24 : decode cX12_joinCounts 24 = .ok (.bastore, 1) := by decide +kernel
theorem dX12_joinCounts_25 : decode cX12_joinCounts 25 = .ok (.return_, 1) := by decide +kernel
theorem dX12_joinCounts_26 : decode cX12_joinCounts 26 = .ok (.aload_n 0, 1) := by decide +kernel
theorem dX12_joinCounts_27 : decode cX12_joinCounts 27 = .ok (.iconst 0, 1) := by decide +kernel
theorem dX12_joinCounts_28 : decode cX12_joinCounts 28 = .ok (.putfield 156, 3) := by decide +kernel
theorem dX12_joinCounts_31 : decode cX12_joinCounts 31 = .ok (.sipush 300, 3) := by decide +kernel
theorem dX12_joinCounts_34 : decode cX12_joinCounts 34 = .ok (.iload_n 1, 1) := by decide +kernel
theorem dX12_joinCounts_35 : decode cX12_joinCounts 35 = .ok (.imul, 1) := by decide +kernel
theorem dX12_joinCounts_36 : decode cX12_joinCounts 36 = .ok (.istore_n 3, 1) := by decide +kernel
theorem dX12_joinCounts_37 : decode cX12_joinCounts 37 = .ok (.iload_n 3, 1) := by decide +kernel
theorem dX12_joinCounts_38 : decode cX12_joinCounts 38 = .ok (.sipush 300, 3) := by decide +kernel
theorem dX12_joinCounts_41 : decode cX12_joinCounts 41 = .ok (.iload_n 1, 1) := by decide +kernel
theorem dX12_joinCounts_42 : decode cX12_joinCounts 42 = .ok (.imul, 1) := by decide +kernel
theorem dX12_joinCounts_43 : decode cX12_joinCounts 43 = .ok (.aload_n 0, 1) := by decide +kernel
theorem dX12_joinCounts_44 : decode cX12_joinCounts 44 = .ok (.getfield 50, 3) := by decide +kernel
theorem dX12_joinCounts_47 : decode cX12_joinCounts 47 = .ok (.iload_n 1, 1) := by decide +kernel
theorem dX12_joinCounts_48 : decode cX12_joinCounts 48 = .ok (.iaload, 1) := by decide +kernel
theorem dX12_joinCounts_49 : decode cX12_joinCounts 49 = .ok (.iadd, 1) := by decide +kernel
theorem dX12_joinCounts_50 : decode cX12_joinCounts 50 = .ok (.if_icmp .ge 26, 3) := by decide +kernel
theorem dX12_joinCounts_53 : decode cX12_joinCounts 53 = .ok (.aload_n 0, 1) := by decide +kernel
theorem dX12_joinCounts_54 : decode cX12_joinCounts 54 = .ok (.aload_n 0, 1) := by decide +kernel
theorem dX12_joinCounts_55 : decode cX12_joinCounts 55 = .ok (.getfield 57, 3) := by decide +kernel
theorem dX12_joinCounts_58 : decode cX12_joinCounts 58 = .ok (.iload_n 3, 1) := by decide +kernel
theorem dX12_joinCounts_59 : decode cX12_joinCounts 59 = .ok (.iaload, 1) := by decide +kernel
theorem dX12_joinCounts_60 : decode cX12_joinCounts 60 = .ok (.aload_n 0, 1) := by decide +kernel
theorem dX12_joinCounts_61 : decode cX12_joinCounts 61 = .ok (.getfield 60, 3) := by decide +kernel
theorem dX12_joinCounts_64 : decode cX12_joinCounts 64 = .ok (.iload_n 3, 1) := by decide +kernel
theorem dX12_joinCounts_65 : decode cX12_joinCounts 65 = .ok (.laload, 1) := by decide +kernel
theorem dX12_joinCounts_66 : decode cX12_joinCounts 66 = .ok (.lconst 0, 1) := by decide +kernel
theorem dX12_joinCounts_67 : decode cX12_joinCounts 67 = .ok (.invokevirtual 172, 3) := by decide +kernel
theorem dX12_joinCounts_70 : decode cX12_joinCounts 70 = .ok (.iinc 3 1, 3) := by decide +kernel
theorem dX12_joinCounts_73 : decode cX12_joinCounts 73 = .ok (.goto (-36), 3) := by decide +kernel
theorem dX12_joinCounts_76 : decode cX12_joinCounts 76 = .ok (.sipush 300, 3) := by decide +kernel
theorem dX12_joinCounts_79 : decode cX12_joinCounts 79 = .ok (.iload_n 2, 1) := by decide +kernel
theorem dX12_joinCounts_80 : decode cX12_joinCounts 80 = .ok (.imul, 1) := by decide +kernel
theorem dX12_joinCounts_81 : decode cX12_joinCounts 81 = .ok (.istore_n 3, 1) := by decide +kernel
theorem dX12_joinCounts_82 : decode cX12_joinCounts 82 = .ok (.iload_n 3, 1) := by decide +kernel
theorem dX12_joinCounts_83 : decode cX12_joinCounts 83 = .ok (.sipush 300, 3) := by decide +kernel
theorem dX12_joinCounts_86 : decode cX12_joinCounts 86 = .ok (.iload_n 2, 1) := by decide +kernel
theorem dX12_joinCounts_87 : decode cX12_joinCounts 87 = .ok (.imul, 1) := by decide +kernel
theorem dX12_joinCounts_88 : decode cX12_joinCounts 88 = .ok (.aload_n 0, 1) := by decide +kernel
theorem dX12_joinCounts_89 : decode cX12_joinCounts 89 = .ok (.getfield 50, 3) := by decide +kernel
theorem dX12_joinCounts_92 : decode cX12_joinCounts 92 = .ok (.iload_n 2, 1) := by decide +kernel
theorem dX12_joinCounts_93 : decode cX12_joinCounts 93 = .ok (.iaload, 1) := by decide +kernel
theorem dX12_joinCounts_94 : decode cX12_joinCounts 94 = .ok (.iadd, 1) := by decide +kernel
theorem dX12_joinCounts_95 : decode cX12_joinCounts 95 = .ok (.if_icmp .ge 26, 3) := by decide +kernel
theorem dX12_joinCounts_98 : decode cX12_joinCounts 98 = .ok (.aload_n 0, 1) := by decide +kernel
theorem dX12_joinCounts_99 : decode cX12_joinCounts 99 = .ok (.aload_n 0, 1) := by decide +kernel
theorem dX12_joinCounts_100 : decode cX12_joinCounts 100 = .ok (.getfield 57, 3) := by decide +kernel
theorem dX12_joinCounts_103 : decode cX12_joinCounts 103 = .ok (.iload_n 3, 1) := by decide +kernel
theorem dX12_joinCounts_104 : decode cX12_joinCounts 104 = .ok (.iaload, 1) := by decide +kernel
theorem dX12_joinCounts_105 : decode cX12_joinCounts 105 = .ok (.aload_n 0, 1) := by decide +kernel
theorem dX12_joinCounts_106 : decode cX12_joinCounts 106 = .ok (.getfield 60, 3) := by decide +kernel
theorem dX12_joinCounts_109 : decode cX12_joinCounts 109 = .ok (.iload_n 3, 1) := by decide +kernel
theorem dX12_joinCounts_110 : decode cX12_joinCounts 110 = .ok (.laload, 1) := by decide +kernel
theorem dX12_joinCounts_111 : decode cX12_joinCounts 111 = .ok (.lconst 0, 1) := by decide +kernel
theorem dX12_joinCounts_112 : decode cX12_joinCounts 112 = .ok (.invokevirtual 172, 3) := by decide +kernel
theorem dX12_joinCounts_115 : decode cX12_joinCounts 115 = .ok (.iinc 3 1, 3) := by decide +kernel
theorem dX12_joinCounts_118 : decode cX12_joinCounts 118 = .ok (.goto (-36), 3) := by decide +kernel
theorem dX12_joinCounts_121 : decode cX12_joinCounts 121 = .ok (.aload_n 0, 1) := by decide +kernel
theorem dX12_joinCounts_122 : decode cX12_joinCounts 122 = .ok (.getfield 156, 3) := by decide +kernel
theorem dX12_joinCounts_125 : decode cX12_joinCounts 125 = .ok (.sipush 300, 3) := by decide +kernel
theorem dX12_joinCounts_128 : decode cX12_joinCounts 128 = .ok (.if_icmp .le 11, 3) := by decide +kernel
theorem dX12_joinCounts_131 : decode cX12_joinCounts 131 = .ok (.aload_n 0, 1) := by decide +kernel
theorem dX12_joinCounts_132 : decode cX12_joinCounts 132 = .ok (.getfield 53, 3) := by decide +kernel
theorem dX12_joinCounts_135 : decode cX12_joinCounts 135 = .ok (.iload_n 1, 1) := by decide +kernel
theorem dX12_joinCounts_136 : decode cX12_joinCounts 136 = .ok (.iconst 1, 1) := by decide +kernel
theorem dX12_joinCounts_137 : decode cX12_joinCounts 137 = .ok (.bastore, 1) := by decide +kernel
theorem dX12_joinCounts_138 : decode cX12_joinCounts 138 = .ok (.return_, 1) := by decide +kernel
theorem dX12_joinCounts_139 : decode cX12_joinCounts 139 = .ok (.aload_n 0, 1) := by decide +kernel
theorem dX12_joinCounts_140 : decode cX12_joinCounts 140 = .ok (.getfield 50, 3) := by decide +kernel
theorem dX12_joinCounts_143 : decode cX12_joinCounts 143 = .ok (.iload_n 1, 1) := by decide +kernel
theorem dX12_joinCounts_144 : decode cX12_joinCounts 144 = .ok (.aload_n 0, 1) := by decide +kernel
theorem dX12_joinCounts_145 : decode cX12_joinCounts 145 = .ok (.getfield 156, 3) := by decide +kernel
theorem dX12_joinCounts_148 : decode cX12_joinCounts 148 = .ok (.iastore, 1) := by decide +kernel
theorem dX12_joinCounts_149 : decode cX12_joinCounts 149 = .ok (.iconst 0, 1) := by decide +kernel
theorem dX12_joinCounts_150 : decode cX12_joinCounts 150 = .ok (.istore_n 3, 1) := by decide +kernel
theorem dX12_joinCounts_151 : decode cX12_joinCounts 151 = .ok (.iload_n 3, 1) := by decide +kernel
theorem dX12_joinCounts_152 : decode cX12_joinCounts 152 = .ok (.aload_n 0, 1) := by decide +kernel
theorem dX12_joinCounts_153 : decode cX12_joinCounts 153 = .ok (.getfield 156, 3) := by decide +kernel
theorem dX12_joinCounts_156 : decode cX12_joinCounts 156 = .ok (.if_icmp .ge 45, 3) := by decide +kernel
theorem dX12_joinCounts_159 : decode cX12_joinCounts 159 = .ok (.aload_n 0, 1) := by decide +kernel
theorem dX12_joinCounts_160 : decode cX12_joinCounts 160 = .ok (.getfield 57, 3) := by decide +kernel
theorem dX12_joinCounts_163 : decode cX12_joinCounts 163 = .ok (.sipush 300, 3) := by decide +kernel
theorem dX12_joinCounts_166 : decode cX12_joinCounts 166 = .ok (.iload_n 1, 1) := by decide +kernel
theorem dX12_joinCounts_167 : decode cX12_joinCounts 167 = .ok (.imul, 1) := by decide +kernel
theorem dX12_joinCounts_168 : decode cX12_joinCounts 168 = .ok (.iload_n 3, 1) := by decide +kernel
theorem dX12_joinCounts_169 : decode cX12_joinCounts 169 = .ok (.iadd, 1) := by decide +kernel
theorem dX12_joinCounts_170 : decode cX12_joinCounts 170 = .ok (.aload_n 0, 1) := by decide +kernel
theorem dX12_joinCounts_171 : decode cX12_joinCounts 171 = .ok (.getfield 69, 3) := by decide +kernel
theorem dX12_joinCounts_174 : decode cX12_joinCounts 174 = .ok (.iload_n 3, 1) := by decide +kernel
theorem dX12_joinCounts_175 : decode cX12_joinCounts 175 = .ok (.iaload, 1) := by decide +kernel
theorem dX12_joinCounts_176 : decode cX12_joinCounts 176 = .ok (.iastore, 1) := by decide +kernel
theorem dX12_joinCounts_177 : decode cX12_joinCounts 177 = .ok (.aload_n 0, 1) := by decide +kernel
theorem dX12_joinCounts_178 : decode cX12_joinCounts 178 = .ok (.getfield 60, 3) := by decide +kernel
theorem dX12_joinCounts_181 : decode cX12_joinCounts 181 = .ok (.sipush 300, 3) := by decide +kernel
theorem dX12_joinCounts_184 : decode cX12_joinCounts 184 = .ok (.iload_n 1, 1) := by decide +kernel
theorem dX12_joinCounts_185 : decode cX12_joinCounts 185 = .ok (.imul, 1) := by decide +kernel
theorem dX12_joinCounts_186 : decode cX12_joinCounts 186 = .ok (.iload_n 3, 1) := by decide +kernel
theorem dX12_joinCounts_187 : decode cX12_joinCounts 187 = .ok (.iadd, 1) := by decide +kernel
theorem dX12_joinCounts_188 : decode cX12_joinCounts 188 = .ok (.aload_n 0, 1) := by decide +kernel
theorem dX12_joinCounts_189 : decode cX12_joinCounts 189 = .ok (.getfield 72, 3) := by decide +kernel
theorem dX12_joinCounts_192 : decode cX12_joinCounts 192 = .ok (.iload_n 3, 1) := by decide +kernel
theorem dX12_joinCounts_193 : decode cX12_joinCounts 193 = .ok (.laload, 1) := by decide +kernel
theorem dX12_joinCounts_194 : decode cX12_joinCounts 194 = .ok (.lastore, 1) := by decide +kernel
theorem dX12_joinCounts_195 : decode cX12_joinCounts 195 = .ok (.iinc 3 1, 3) := by decide +kernel
theorem dX12_joinCounts_198 : decode cX12_joinCounts 198 = .ok (.goto (-47), 3) := by decide +kernel
theorem dX12_joinCounts_201 : decode cX12_joinCounts 201 = .ok (.return_, 1) := by decide +kernel
theorem dX12_total_0 : decode cX12_total 0 = .ok (.iload_n 1, 1) := by decide +kernel
theorem dX12_total_1 : decode cX12_total 1 = .ok (.invokestatic 146, 3) := by decide +kernel
theorem dX12_total_4 : decode cX12_total 4 = .ok (.ifCond .eq 12, 3) := by decide +kernel
theorem dX12_total_7 : decode cX12_total 7 = .ok (.aload_n 0, 1) := by decide +kernel
theorem dX12_total_8 : decode cX12_total 8 = .ok (.getfield 16, 3) := by decide +kernel
theorem dX12_total_11 : decode cX12_total 11 = .ok (.iload_n 1, 1) := by decide +kernel
theorem dX12_total_12 : decode cX12_total 12 = .ok (.laload, 1) := by decide +kernel
theorem dX12_total_13 : decode cX12_total 13 = .ok (.goto 6, 3) := by decide +kernel
theorem dX12_total_16 : decode cX12_total 16 = .ok (.ldc2_w 151, 3) := by decide +kernel
theorem dX12_total_19 : decode cX12_total 19 = .ok (.lreturn, 1) := by decide +kernel
theorem dX12_one_0 : decode cX12_one 0 = .ok (.iload_n 2, 1) := by decide +kernel
theorem dX12_one_1 : decode cX12_one 1 = .ok (.iconst 2, 1) := by decide +kernel
theorem dX12_one_2 : decode cX12_one 2 = .ok (.if_icmp .ge 33, 3) := by decide +kernel
theorem dX12_one_5 : decode cX12_one 5 = .ok (.iload 4, 2) := by decide +kernel
theorem dX12_one_7 : decode cX12_one 7 = .ok (.iconst 1, 1) := by decide +kernel
theorem dX12_one_8 : decode cX12_one 8 = .ok (.if_icmp .ne 7, 3) := by decide +kernel
theorem dX12_one_11 : decode cX12_one 11 = .ok (.lconst 0, 1) := by decide +kernel
theorem dX12_one_12 : decode cX12_one 12 = .ok (.goto 22, 3) := by decide +kernel
theorem dX12_one_15 : decode cX12_one 15 = .ok (.iload_n 2, 1) := by decide +kernel
theorem dX12_one_16 : decode cX12_one 16 = .ok (.ifCond .ne 12, 3) := by decide +kernel
theorem dX12_one_19 : decode cX12_one 19 = .ok (.aload_n 0, 1) := by decide +kernel
theorem dX12_one_20 : decode cX12_one 20 = .ok (.iload_n 1, 1) := by decide +kernel
theorem dX12_one_21 : decode cX12_one 21 = .ok (.iload_n 3, 1) := by decide +kernel
theorem dX12_one_22 : decode cX12_one 22 = .ok (.invokevirtual 187, 3) := by decide +kernel
theorem dX12_one_25 : decode cX12_one 25 = .ok (.goto 9, 3) := by decide +kernel
theorem dX12_one_28 : decode cX12_one 28 = .ok (.aload_n 0, 1) := by decide +kernel
theorem dX12_one_29 : decode cX12_one 29 = .ok (.iload_n 1, 1) := by decide +kernel
theorem dX12_one_30 : decode cX12_one 30 = .ok (.iload_n 3, 1) := by decide +kernel
theorem dX12_one_31 : decode cX12_one 31 = .ok (.invokevirtual 114, 3) := by decide +kernel
theorem dX12_one_34 : decode cX12_one 34 = .ok (.lreturn, 1) := by decide +kernel
theorem dX12_one_35 : decode cX12_one 35 = .ok (.iload_n 2, 1) := by decide +kernel
theorem dX12_one_36 : decode cX12_one 36 = .ok (.iconst 2, 1) := by decide +kernel
theorem dX12_one_37 : decode cX12_one 37 = .ok (.if_icmp .ne 50, 3) := by decide +kernel
theorem dX12_one_40 : decode cX12_one 40 = .ok (.aload_n 0, 1) := by decide +kernel
theorem dX12_one_41 : decode cX12_one 41 = .ok (.iload_n 1, 1) := by decide +kernel
theorem dX12_one_42 : decode cX12_one 42 = .ok (.iload_n 3, 1) := by decide +kernel
theorem dX12_one_43 : decode cX12_one 43 = .ok (.invokevirtual 129, 3) := by decide +kernel
theorem dX12_one_46 : decode cX12_one 46 = .ok (.istore 5, 2) := by decide +kernel
theorem dX12_one_48 : decode cX12_one 48 = .ok (.iload 5, 2) := by decide +kernel
theorem dX12_one_50 : decode cX12_one 50 = .ok (.ifCond .ge 7, 3) := by decide +kernel
theorem dX12_one_53 : decode cX12_one 53 = .ok (.lconst 0, 1) := by decide +kernel
theorem dX12_one_54 : decode cX12_one 54 = .ok (.goto 10, 3) := by decide +kernel
theorem dX12_one_57 : decode cX12_one 57 = .ok (.aload_n 0, 1) := by decide +kernel
theorem dX12_one_58 : decode cX12_one 58 = .ok (.getfield 35, 3) := by decide +kernel
theorem dX12_one_61 : decode cX12_one 61 = .ok (.iload 5, 2) := by decide +kernel
theorem dX12_one_63 : decode cX12_one 63 = .ok (.laload, 1) := by decide +kernel
theorem dX12_one_64 : decode cX12_one 64 = .ok (.lstore 6, 2) := by decide +kernel
theorem dX12_one_66 : decode cX12_one 66 = .ok (.iload 4, 2) := by decide +kernel
theorem dX12_one_68 : decode cX12_one 68 = .ok (.iconst 2, 1) := by decide +kernel
theorem dX12_one_69 : decode cX12_one 69 = .ok (.if_icmp .ne 15, 3) := by decide +kernel
theorem dX12_one_72 : decode cX12_one 72 = .ok (.lload 6, 2) := by decide +kernel
theorem dX12_one_74 : decode cX12_one 74 = .ok (.aload_n 0, 1) := by decide +kernel
theorem dX12_one_75 : decode cX12_one 75 = .ok (.getfield 29, 3) := by decide +kernel
theorem dX12_one_78 : decode cX12_one 78 = .ok (.iload_n 1, 1) := by decide +kernel
theorem dX12_one_79 : decode cX12_one 79 = .ok (.laload, 1) := by decide +kernel
theorem dX12_one_80 : decode cX12_one 80 = .ok (.ladd, 1) := by decide +kernel
theorem dX12_one_81 : decode cX12_one 81 = .ok (.goto 5, 3) := by decide +kernel
theorem dX12_one_84 : decode cX12_one 84 = .ok (.lload 6, 2) := by decide +kernel
theorem dX12_one_86 : decode cX12_one 86 = .ok (.lreturn, 1) := by decide +kernel
theorem dX12_one_87 : decode cX12_one 87 = .ok (.aload_n 0, 1) := by decide +kernel
theorem dX12_one_88 : decode cX12_one 88 = .ok (.iload_n 1, 1) := by decide +kernel
theorem dX12_one_89 : decode cX12_one 89 = .ok (.iload_n 3, 1) := by decide +kernel
theorem dX12_one_90 : decode cX12_one 90 = .ok (.invokevirtual 137, 3) := by decide +kernel
theorem dX12_one_93 : decode cX12_one 93 = .ok (.istore 5, 2) := by decide +kernel
theorem dX12_one_95 : decode cX12_one 95 = .ok (.iload 4, 2) := by decide +kernel
theorem dX12_one_97 : decode cX12_one 97 = .ok (.iconst 1, 1) := by decide +kernel
theorem dX12_one_98 : decode cX12_one 98 = .ok (.if_icmp .ne 28, 3) := by decide +kernel
theorem dX12_one_101 : decode cX12_one 101 = .ok (.iload 5, 2) := by decide +kernel
theorem dX12_one_103 : decode cX12_one 103 = .ok (.ifCond .ge 7, 3) := by decide +kernel
theorem dX12_one_106 : decode cX12_one 106 = .ok (.lconst 0, 1) := by decide +kernel
theorem dX12_one_107 : decode cX12_one 107 = .ok (.goto 18, 3) := by decide +kernel
theorem dX12_one_110 : decode cX12_one 110 = .ok (.aload_n 0, 1) := by decide +kernel
theorem dX12_one_111 : decode cX12_one 111 = .ok (.getfield 44, 3) := by decide +kernel
theorem dX12_one_114 : decode cX12_one 114 = .ok (.iload 5, 2) := by decide +kernel
theorem dX12_one_116 : decode cX12_one 116 = .ok (.laload, 1) := by decide +kernel
theorem dX12_one_117 : decode cX12_one 117 = .ok (.aload_n 0, 1) := by decide +kernel
theorem dX12_one_118 : decode cX12_one 118 = .ok (.getfield 47, 3) := by decide +kernel
theorem dX12_one_121 : decode cX12_one 121 = .ok (.iload 5, 2) := by decide +kernel
theorem dX12_one_123 : decode cX12_one 123 = .ok (.laload, 1) := by decide +kernel
theorem dX12_one_124 : decode cX12_one 124 = .ok (.lsub, 1) := by decide +kernel
theorem dX12_one_125 : decode cX12_one 125 = .ok (.lreturn, 1) := by decide +kernel
theorem dX12_one_126 : decode cX12_one 126 = .ok (.iload 5, 2) := by decide +kernel
theorem dX12_one_128 : decode cX12_one 128 = .ok (.ifCond .ge 11, 3) := by decide +kernel
theorem dX12_one_131 : decode cX12_one 131 = .ok (.aload_n 0, 1) := by decide +kernel
theorem dX12_one_132 : decode cX12_one 132 = .ok (.iload_n 1, 1) := by decide +kernel
theorem dX12_one_133 : decode cX12_one 133 = .ok (.invokevirtual 180, 3) := by decide +kernel
theorem dX12_one_136 : decode cX12_one 136 = .ok (.goto 10, 3) := by decide +kernel
theorem dX12_one_139 : decode cX12_one 139 = .ok (.aload_n 0, 1) := by decide +kernel
theorem dX12_one_140 : decode cX12_one 140 = .ok (.getfield 44, 3) := by decide +kernel
theorem dX12_one_143 : decode cX12_one 143 = .ok (.iload 5, 2) := by decide +kernel
theorem dX12_one_145 : decode cX12_one 145 = .ok (.laload, 1) := by decide +kernel
theorem dX12_one_146 : decode cX12_one 146 = .ok (.lreturn, 1) := by decide +kernel
theorem dX12_estimated_0 : decode cX12_estimated 0 = .ok (.iload_n 2, 1) := by decide +kernel
theorem dX12_estimated_1 : decode cX12_estimated 1 = .ok (.iconst 4, 1) := by decide +kernel
theorem dX12_estimated_2 : decode cX12_estimated 2 = .ok (.if_icmp .ge 13, 3) := by decide +kernel
theorem dX12_estimated_5 : decode cX12_estimated 5 = .ok (.aload_n 0, 1) := by decide +kernel
theorem dX12_estimated_6 : decode cX12_estimated 6 = .ok (.iload_n 1, 1) := by decide +kernel
theorem dX12_estimated_7 : decode cX12_estimated 7 = .ok (.iload_n 2, 1) := by decide +kernel
theorem dX12_estimated_8 : decode cX12_estimated 8 = .ok (.iload_n 3, 1) := by decide +kernel
theorem dX12_estimated_9 : decode cX12_estimated 9 = .ok (.iload 4, 2) := by decide +kernel
theorem dX12_estimated_11 : decode cX12_estimated 11 = .ok (.invokevirtual 190, 3) := by decide +kernel
theorem dX12_estimated_14 : decode cX12_estimated 14 = .ok (.lreturn, 1) := by decide +kernel
theorem dX12_estimated_15 : decode cX12_estimated 15 = .ok (.aload_n 0, 1) := by decide +kernel
theorem dX12_estimated_16 : decode cX12_estimated 16 = .ok (.iload_n 1, 1) := by decide +kernel
theorem dX12_estimated_17 : decode cX12_estimated 17 = .ok (.iconst 0, 1) := by decide +kernel
theorem dX12_estimated_18 : decode cX12_estimated 18 = .ok (.iload_n 3, 1) := by decide +kernel
theorem dX12_estimated_19 : decode cX12_estimated 19 = .ok (.iconst 1, 1) := by decide +kernel
theorem dX12_estimated_20 : decode cX12_estimated 20 = .ok (.invokevirtual 190, 3) := by decide +kernel
theorem dX12_estimated_23 : decode cX12_estimated 23 = .ok (.lstore 5, 2) := by decide +kernel
theorem dX12_estimated_25 : decode cX12_estimated 25 = .ok (.aload_n 0, 1) := by decide +kernel
theorem dX12_estimated_26 : decode cX12_estimated 26 = .ok (.iload_n 1, 1) := by decide +kernel
theorem dX12_estimated_27 : decode cX12_estimated 27 = .ok (.iconst 0, 1) := by decide +kernel
theorem dX12_estimated_28 : decode cX12_estimated 28 = .ok (.iload_n 3, 1) := by decide +kernel
theorem dX12_estimated_29 : decode cX12_estimated 29 = .ok (.iconst 2, 1) := by decide +kernel
theorem dX12_estimated_30 : decode cX12_estimated 30 = .ok (.invokevirtual 190, 3) := by decide +kernel
theorem dX12_estimated_33 : decode cX12_estimated 33 = .ok (.lstore 7, 2) := by decide +kernel
theorem dX12_estimated_35 : decode cX12_estimated 35 = .ok (.iconst 1, 1) := by decide +kernel
theorem dX12_estimated_36 : decode cX12_estimated 36 = .ok (.istore 9, 2) := by decide +kernel
theorem dX12_estimated_38 : decode cX12_estimated 38 = .ok (.iload 9, 2) := by decide +kernel
theorem dX12_estimated_40 : decode cX12_estimated 40 = .ok (.iconst 4, 1) := by decide +kernel
theorem dX12_estimated_41 : decode cX12_estimated 41 = .ok (.if_icmp .ge 65, 3) := by decide +kernel
theorem dX12_estimated_44 : decode cX12_estimated 44 = .ok (.aload_n 0, 1) := by decide +kernel
theorem dX12_estimated_45 : decode cX12_estimated 45 = .ok (.iload_n 1, 1) := by decide +kernel
theorem dX12_estimated_46 : decode cX12_estimated 46 = .ok (.iload 9, 2) := by decide +kernel
theorem dX12_estimated_48 : decode cX12_estimated 48 = .ok (.iload_n 3, 1) := by decide +kernel
theorem dX12_estimated_49 : decode cX12_estimated 49 = .ok (.iconst 1, 1) := by decide +kernel
theorem dX12_estimated_50 : decode cX12_estimated 50 = .ok (.invokevirtual 190, 3) := by decide +kernel
theorem dX12_estimated_53 : decode cX12_estimated 53 = .ok (.lstore 10, 2) := by decide +kernel
theorem dX12_estimated_55 : decode cX12_estimated 55 = .ok (.aload_n 0, 1) := by decide +kernel
theorem dX12_estimated_56 : decode cX12_estimated 56 = .ok (.iload_n 1, 1) := by decide +kernel
theorem dX12_estimated_57 : decode cX12_estimated 57 = .ok (.iload 9, 2) := by decide +kernel
theorem dX12_estimated_59 : decode cX12_estimated 59 = .ok (.iload_n 3, 1) := by decide +kernel
theorem dX12_estimated_60 : decode cX12_estimated 60 = .ok (.iconst 2, 1) := by decide +kernel
theorem dX12_estimated_61 : decode cX12_estimated 61 = .ok (.invokevirtual 190, 3) := by decide +kernel
theorem dX12_estimated_64 : decode cX12_estimated 64 = .ok (.lstore 12, 2) := by decide +kernel
theorem dX12_estimated_66 : decode cX12_estimated 66 = .ok (.lload 10, 2) := by decide +kernel
theorem dX12_estimated_68 : decode cX12_estimated 68 = .ok (.lload 5, 2) := by decide +kernel
theorem dX12_estimated_70 : decode cX12_estimated 70 = .ok (.lcmp, 1) := by decide +kernel
theorem dX12_estimated_71 : decode cX12_estimated 71 = .ok (.ifCond .le 8, 3) := by decide +kernel
theorem dX12_estimated_74 : decode cX12_estimated 74 = .ok (.lload 10, 2) := by decide +kernel
theorem dX12_estimated_76 : decode cX12_estimated 76 = .ok (.goto 5, 3) := by decide +kernel
theorem dX12_estimated_79 : decode cX12_estimated 79 = .ok (.lload 5, 2) := by decide +kernel
theorem dX12_estimated_81 : decode cX12_estimated 81 = .ok (.lstore 5, 2) := by decide +kernel
theorem dX12_estimated_83 : decode cX12_estimated 83 = .ok (.lload 12, 2) := by decide +kernel
theorem dX12_estimated_85 : decode cX12_estimated 85 = .ok (.lload 7, 2) := by decide +kernel
theorem dX12_estimated_87 : decode cX12_estimated 87 = .ok (.lcmp, 1) := by decide +kernel
theorem dX12_estimated_88 : decode cX12_estimated 88 = .ok (.ifCond .ge 8, 3) := by decide +kernel
theorem dX12_estimated_91 : decode cX12_estimated 91 = .ok (.lload 12, 2) := by decide +kernel
theorem dX12_estimated_93 : decode cX12_estimated 93 = .ok (.goto 5, 3) := by decide +kernel
theorem dX12_estimated_96 : decode cX12_estimated 96 = .ok (.lload 7, 2) := by decide +kernel
theorem dX12_estimated_98 : decode cX12_estimated 98 = .ok (.lstore 7, 2) := by decide +kernel
theorem dX12_estimated_100 : decode cX12_estimated 100 = .ok (.iinc 9 1, 3) := by decide +kernel
theorem dX12_estimated_103 : decode cX12_estimated 103 = .ok (.goto (-65), 3) := by decide +kernel
theorem dX12_estimated_106 : decode cX12_estimated 106 = .ok (.iload 4, 2) := by decide +kernel
theorem dX12_estimated_108 : decode cX12_estimated 108 = .ok (.iconst 1, 1) := by decide +kernel
theorem dX12_estimated_109 : decode cX12_estimated 109 = .ok (.if_icmp .ne 8, 3) := by decide +kernel
theorem dX12_estimated_112 : decode cX12_estimated 112 = .ok (.lload 5, 2) := by decide +kernel
theorem dX12_estimated_114 : decode cX12_estimated 114 = .ok (.goto 23, 3) := by decide +kernel
theorem dX12_estimated_117 : decode cX12_estimated 117 = .ok (.iload 4, 2) := by decide +kernel
theorem dX12_estimated_119 : decode cX12_estimated 119 = .ok (.iconst 2, 1) := by decide +kernel
theorem dX12_estimated_120 : decode cX12_estimated 120 = .ok (.if_icmp .ne 8, 3) := by decide +kernel
theorem dX12_estimated_123 : decode cX12_estimated 123 = .ok (.lload 7, 2) := by decide +kernel
theorem dX12_estimated_125 : decode cX12_estimated 125 = .ok (.goto 12, 3) := by decide +kernel
theorem dX12_estimated_128 : decode cX12_estimated 128 = .ok (.lload 5, 2) := by decide +kernel
theorem dX12_estimated_130 : decode cX12_estimated 130 = .ok (.lload 7, 2) := by decide +kernel
theorem dX12_estimated_132 : decode cX12_estimated 132 = .ok (.ladd, 1) := by decide +kernel
theorem dX12_estimated_133 : decode cX12_estimated 133 = .ok (.ldc2_w 194, 3) := by decide +kernel
theorem dX12_estimated_136 : decode cX12_estimated 136 = .ok (.ldiv, 1) := by decide +kernel
theorem dX12_estimated_137 : decode cX12_estimated 137 = .ok (.lreturn, 1) := by decide +kernel
theorem dX12_estimate_0 : decode cX12_estimate 0 = .ok (.iload_n 1, 1) := by decide +kernel
theorem dX12_estimate_1 : decode cX12_estimate 1 = .ok (.invokestatic 146, 3) := by decide +kernel
theorem dX12_estimate_4 : decode cX12_estimate 4 = .ok (.ifCond .eq 42, 3) := by decide +kernel
theorem dX12_estimate_7 : decode cX12_estimate 7 = .ok (.iload_n 2, 1) := by decide +kernel
theorem dX12_estimate_8 : decode cX12_estimate 8 = .ok (.iconst 0, 1) := by decide +kernel
theorem dX12_estimate_9 : decode cX12_estimate 9 = .ok (.iconst 4, 1) := by decide +kernel
theorem dX12_estimate_10 : decode cX12_estimate 10 = .ok (.invokestatic 101, 3) := by decide +kernel
theorem dX12_estimate_13 : decode cX12_estimate 13 = .ok (.ifCond .eq 33, 3) := by decide +kernel
theorem dX12_estimate_16 : decode cX12_estimate 16 = .ok (.aload_n 0, 1) := by decide +kernel
theorem dX12_estimate_17 : decode cX12_estimate 17 = .ok (.iload_n 3, 1) := by decide +kernel
theorem dX12_estimate_18 : decode cX12_estimate 18 = .ok (.invokevirtual 105, 3) := by decide +kernel
theorem dX12_estimate_21 : decode cX12_estimate 21 = .ok (.ifCond .eq 25, 3) := by decide +kernel
theorem dX12_estimate_24 : decode cX12_estimate 24 = .ok (.iload 4, 2) := by decide +kernel
theorem dX12_estimate_26 : decode cX12_estimate 26 = .ok (.iconst 0, 1) := by decide +kernel
theorem dX12_estimate_27 : decode cX12_estimate 27 = .ok (.iconst 2, 1) := by decide +kernel
theorem dX12_estimate_28 : decode cX12_estimate 28 = .ok (.invokestatic 101, 3) := by decide +kernel
theorem dX12_estimate_31 : decode cX12_estimate 31 = .ok (.ifCond .eq 15, 3) := by decide +kernel
theorem dX12_estimate_34 : decode cX12_estimate 34 = .ok (.aload_n 0, 1) := by decide +kernel
theorem dX12_estimate_35 : decode cX12_estimate 35 = .ok (.iload_n 1, 1) := by decide +kernel
theorem dX12_estimate_36 : decode cX12_estimate 36 = .ok (.iload_n 2, 1) := by decide +kernel
theorem dX12_estimate_37 : decode cX12_estimate 37 = .ok (.iload_n 3, 1) := by decide +kernel
theorem dX12_estimate_38 : decode cX12_estimate 38 = .ok (.iload 4, 2) := by decide +kernel
theorem dX12_estimate_40 : decode cX12_estimate 40 = .ok (.invokevirtual 196, 3) := by decide +kernel
theorem dX12_estimate_43 : decode cX12_estimate 43 = .ok (.goto 6, 3) := by decide +kernel
theorem dX12_estimate_46 : decode cX12_estimate 46 = .ok (.ldc2_w 151, 3) := by decide +kernel
theorem dX12_estimate_49 : decode cX12_estimate 49 = .ok (.lreturn, 1) := by decide +kernel
theorem dX12_count_0 : decode cX12_count 0 = .ok (.iload_n 1, 1) := by decide +kernel
theorem dX12_count_1 : decode cX12_count 1 = .ok (.invokestatic 146, 3) := by decide +kernel
theorem dX12_count_4 : decode cX12_count 4 = .ok (.ifCond .eq 20, 3) := by decide +kernel
theorem dX12_count_7 : decode cX12_count 7 = .ok (.aload_n 0, 1) := by decide +kernel
theorem dX12_count_8 : decode cX12_count 8 = .ok (.iload_n 2, 1) := by decide +kernel
theorem dX12_count_9 : decode cX12_count 9 = .ok (.invokevirtual 105, 3) := by decide +kernel
theorem dX12_count_12 : decode cX12_count 12 = .ok (.ifCond .eq 12, 3) := by decide +kernel
theorem dX12_count_15 : decode cX12_count 15 = .ok (.aload_n 0, 1) := by decide +kernel
theorem dX12_count_16 : decode cX12_count 16 = .ok (.getfield 53, 3) := by decide +kernel
theorem dX12_count_19 : decode cX12_count 19 = .ok (.iload_n 1, 1) := by decide +kernel
theorem dX12_count_20 : decode cX12_count 20 = .ok (.baload, 1) := by decide +kernel
theorem dX12_count_21 : decode cX12_count 21 = .ok (.ifCond .eq 7, 3) := by decide +kernel
theorem dX12_count_24 : decode cX12_count 24 = .ok (.ldc2_w 151, 3) := by decide +kernel
theorem dX12_count_27 : decode cX12_count 27 = .ok (.lreturn, 1) := by decide +kernel
theorem dX12_count_28 : decode cX12_count 28 = .ok (.aload_n 0, 1) := by decide +kernel
theorem dX12_count_29 : decode cX12_count 29 = .ok (.iload_n 1, 1) := by decide +kernel
theorem dX12_count_30 : decode cX12_count 30 = .ok (.iload_n 2, 1) := by decide +kernel
theorem dX12_count_31 : decode cX12_count 31 = .ok (.invokevirtual 143, 3) := by decide +kernel
theorem dX12_count_34 : decode cX12_count 34 = .ok (.istore_n 3, 1) := by decide +kernel
theorem dX12_count_35 : decode cX12_count 35 = .ok (.iload_n 3, 1) := by decide +kernel
theorem dX12_count_36 : decode cX12_count 36 = .ok (.ifCond .ge 7, 3) := by decide +kernel
theorem dX12_count_39 : decode cX12_count 39 = .ok (.lconst 0, 1) := by decide +kernel
theorem dX12_count_40 : decode cX12_count 40 = .ok (.goto 9, 3) := by decide +kernel
theorem dX12_count_43 : decode cX12_count 43 = .ok (.aload_n 0, 1) := by decide +kernel
theorem dX12_count_44 : decode cX12_count 44 = .ok (.getfield 60, 3) := by decide +kernel
theorem dX12_count_47 : decode cX12_count 47 = .ok (.iload_n 3, 1) := by decide +kernel
theorem dX12_count_48 : decode cX12_count 48 = .ok (.laload, 1) := by decide +kernel
theorem dX12_count_49 : decode cX12_count 49 = .ok (.lreturn, 1) := by decide +kernel
theorem dX12_cell_0 : decode cX12_cell 0 = .ok (.iload_n 1, 1) := by decide +kernel
theorem dX12_cell_1 : decode cX12_cell 1 = .ok (.invokestatic 146, 3) := by decide +kernel
theorem dX12_cell_4 : decode cX12_cell 4 = .ok (.ifCond .eq 41, 3) := by decide +kernel
theorem dX12_cell_7 : decode cX12_cell 7 = .ok (.iload_n 2, 1) := by decide +kernel
theorem dX12_cell_8 : decode cX12_cell 8 = .ok (.iconst 0, 1) := by decide +kernel
theorem dX12_cell_9 : decode cX12_cell 9 = .ok (.iconst 1, 1) := by decide +kernel
theorem dX12_cell_10 : decode cX12_cell 10 = .ok (.invokestatic 101, 3) := by decide +kernel
theorem dX12_cell_13 : decode cX12_cell 13 = .ok (.ifCond .eq 32, 3) := by decide +kernel
theorem dX12_cell_16 : decode cX12_cell 16 = .ok (.iload_n 3, 1) := by decide +kernel
theorem dX12_cell_17 : decode cX12_cell 17 = .ok (.iconst 0, 1) := by decide +kernel
theorem dX12_cell_18 : decode cX12_cell 18 = .ok (.aload_n 0, 1) := by decide +kernel
theorem dX12_cell_19 : decode cX12_cell 19 = .ok (.getfield 94, 3) := by decide +kernel
theorem dX12_cell_22 : decode cX12_cell 22 = .ok (.iconst 1, 1) := by decide +kernel
theorem dX12_cell_23 : decode cX12_cell 23 = .ok (.isub, 1) := by decide +kernel
theorem dX12_cell_24 : decode cX12_cell 24 = .ok (.invokestatic 101, 3) := by decide +kernel
theorem dX12_cell_27 : decode cX12_cell 27 = .ok (.ifCond .eq 18, 3) := by decide +kernel
theorem dX12_cell_30 : decode cX12_cell 30 = .ok (.iload 4, 2) := by decide +kernel
theorem dX12_cell_32 : decode cX12_cell 32 = .ok (.iconst 0, 1) := by decide +kernel
theorem dX12_cell_33 : decode cX12_cell 33 = .ok (.aload_n 0, 1) := by decide +kernel
theorem dX12_cell_34 : decode cX12_cell 34 = .ok (.getfield 91, 3) := by decide +kernel
theorem dX12_cell_37 : decode cX12_cell 37 = .ok (.iconst 1, 1) := by decide +kernel
theorem dX12_cell_38 : decode cX12_cell 38 = .ok (.isub, 1) := by decide +kernel
theorem dX12_cell_39 : decode cX12_cell 39 = .ok (.invokestatic 101, 3) := by decide +kernel
theorem dX12_cell_42 : decode cX12_cell 42 = .ok (.ifCond .ne 7, 3) := by decide +kernel
theorem dX12_cell_45 : decode cX12_cell 45 = .ok (.ldc2_w 151, 3) := by decide +kernel
theorem dX12_cell_48 : decode cX12_cell 48 = .ok (.lreturn, 1) := by decide +kernel
theorem dX12_cell_49 : decode cX12_cell 49 = .ok (.sipush 2048, 3) := by decide +kernel
theorem dX12_cell_52 : decode cX12_cell 52 = .ok (.iload_n 1, 1) := by decide +kernel
theorem dX12_cell_53 : decode cX12_cell 53 = .ok (.imul, 1) := by decide +kernel
theorem dX12_cell_54 : decode cX12_cell 54 = .ok (.sipush 256, 3) := by decide +kernel
theorem dX12_cell_57 : decode cX12_cell 57 = .ok (.iload_n 3, 1) := by decide +kernel
theorem dX12_cell_58 : decode cX12_cell 58 = .ok (.imul, 1) := by decide +kernel
theorem dX12_cell_59 : decode cX12_cell 59 = .ok (.iadd, 1) := by decide +kernel
theorem dX12_cell_60 : decode cX12_cell 60 = .ok (.iload 4, 2) := by decide +kernel
theorem dX12_cell_62 : decode cX12_cell 62 = .ok (.iadd, 1) := by decide +kernel
theorem dX12_cell_63 : decode cX12_cell 63 = .ok (.istore 5, 2) := by decide +kernel
theorem dX12_cell_65 : decode cX12_cell 65 = .ok (.iload_n 2, 1) := by decide +kernel
theorem dX12_cell_66 : decode cX12_cell 66 = .ok (.ifCond .ne 13, 3) := by decide +kernel
theorem dX12_cell_69 : decode cX12_cell 69 = .ok (.aload_n 0, 1) := by decide +kernel
theorem dX12_cell_70 : decode cX12_cell 70 = .ok (.getfield 20, 3) := by decide +kernel
theorem dX12_cell_73 : decode cX12_cell 73 = .ok (.iload 5, 2) := by decide +kernel
theorem dX12_cell_75 : decode cX12_cell 75 = .ok (.laload, 1) := by decide +kernel
theorem dX12_cell_76 : decode cX12_cell 76 = .ok (.goto 10, 3) := by decide +kernel
theorem dX12_cell_79 : decode cX12_cell 79 = .ok (.aload_n 0, 1) := by decide +kernel
theorem dX12_cell_80 : decode cX12_cell 80 = .ok (.getfield 23, 3) := by decide +kernel
theorem dX12_cell_83 : decode cX12_cell 83 = .ok (.iload 5, 2) := by decide +kernel
theorem dX12_cell_85 : decode cX12_cell 85 = .ok (.laload, 1) := by decide +kernel
theorem dX12_cell_86 : decode cX12_cell 86 = .ok (.lreturn, 1) := by decide +kernel
theorem dX12_counter_0 : decode cX12_counter 0 = .ok (.iload_n 1, 1) := by decide +kernel
theorem dX12_counter_1 : decode cX12_counter 1 = .ok (.invokestatic 146, 3) := by decide +kernel
theorem dX12_counter_4 : decode cX12_counter 4 = .ok (.ifCond .eq 52, 3) := by decide +kernel
theorem dX12_counter_7 : decode cX12_counter 7 = .ok (.iload_n 2, 1) := by decide +kernel
theorem dX12_counter_8 : decode cX12_counter 8 = .ok (.iconst 2, 1) := by decide +kernel
theorem dX12_counter_9 : decode cX12_counter 9 = .ok (.iconst 3, 1) := by decide +kernel
theorem dX12_counter_10 : decode cX12_counter 10 = .ok (.invokestatic 101, 3) := by decide +kernel
theorem dX12_counter_13 : decode cX12_counter 13 = .ok (.ifCond .eq 43, 3) := by decide +kernel
theorem dX12_counter_16 : decode cX12_counter 16 = .ok (.iload 4, 2) := by decide +kernel
theorem dX12_counter_18 : decode cX12_counter 18 = .ok (.iconst 0, 1) := by decide +kernel
theorem dX12_counter_19 : decode cX12_counter 19 = .ok (.iconst 2, 1) := by decide +kernel
theorem dX12_counter_20 : decode cX12_counter 20 = .ok (.invokestatic 101, 3) := by decide +kernel
theorem dX12_counter_23 : decode cX12_counter 23 = .ok (.ifCond .eq 33, 3) := by decide +kernel
theorem dX12_counter_26 : decode cX12_counter 26 = .ok (.iload_n 3, 1) := by decide +kernel
theorem dX12_counter_27 : decode cX12_counter 27 = .ok (.iconst 0, 1) := by decide +kernel
theorem dX12_counter_28 : decode cX12_counter 28 = .ok (.iload_n 2, 1) := by decide +kernel
theorem dX12_counter_29 : decode cX12_counter 29 = .ok (.iconst 2, 1) := by decide +kernel
theorem dX12_counter_30 : decode cX12_counter 30 = .ok (.if_icmp .ne 12, 3) := by decide +kernel
theorem dX12_counter_33 : decode cX12_counter 33 = .ok (.aload_n 0, 1) := by decide +kernel
theorem dX12_counter_34 : decode cX12_counter 34 = .ok (.getfield 26, 3) := by decide +kernel
theorem dX12_counter_37 : decode cX12_counter 37 = .ok (.iload_n 1, 1) := by decide +kernel
theorem dX12_counter_38 : decode cX12_counter 38 = .ok (.iaload, 1) := by decide +kernel
theorem dX12_counter_39 : decode cX12_counter 39 = .ok (.goto 9, 3) := by decide +kernel
theorem dX12_counter_42 : decode cX12_counter 42 = .ok (.aload_n 0, 1) := by decide +kernel
theorem dX12_counter_43 : decode cX12_counter 43 = .ok (.getfield 38, 3) := by decide +kernel
theorem dX12_counter_46 : decode cX12_counter 46 = .ok (.iload_n 1, 1) := by decide +kernel
theorem dX12_counter_47 : decode cX12_counter 47 = .ok (.iaload, 1) := by decide +kernel
theorem dX12_counter_48 : decode cX12_counter 48 = .ok (.iconst 1, 1) := by decide +kernel
theorem dX12_counter_49 : decode cX12_counter 49 = .ok (.isub, 1) := by decide +kernel
theorem dX12_counter_50 : decode cX12_counter 50 = .ok (.invokestatic 101, 3) := by decide +kernel
theorem dX12_counter_53 : decode cX12_counter 53 = .ok (.ifCond .ne 7, 3) := by decide +kernel
theorem dX12_counter_56 : decode cX12_counter 56 = .ok (.ldc2_w 151, 3) := by decide +kernel
theorem dX12_counter_59 : decode cX12_counter 59 = .ok (.lreturn, 1) := by decide +kernel
theorem dX12_counter_60 : decode cX12_counter 60 = .ok (.bipush 64, 2) := by decide +kernel
theorem dX12_counter_62 : decode cX12_counter 62 = .ok (.iload_n 1, 1) := by decide +kernel
theorem dX12_counter_63 : decode cX12_counter 63 = .ok (.imul, 1) := by decide +kernel
theorem dX12_counter_64 : decode cX12_counter 64 = .ok (.iload_n 3, 1) := by decide +kernel
theorem dX12_counter_65 : decode cX12_counter 65 = .ok (.iadd, 1) := by decide +kernel
theorem dX12_counter_66 : decode cX12_counter 66 = .ok (.istore 5, 2) := by decide +kernel
theorem dX12_counter_68 : decode cX12_counter 68 = .ok (.iload_n 2, 1) := by decide +kernel
theorem dX12_counter_69 : decode cX12_counter 69 = .ok (.iconst 2, 1) := by decide +kernel
theorem dX12_counter_70 : decode cX12_counter 70 = .ok (.if_icmp .ne 37, 3) := by decide +kernel
theorem dX12_counter_73 : decode cX12_counter 73 = .ok (.iload 4, 2) := by decide +kernel
theorem dX12_counter_75 : decode cX12_counter 75 = .ok (.ifCond .ne 14, 3) := by decide +kernel
theorem dX12_counter_78 : decode cX12_counter 78 = .ok (.aload_n 0, 1) := by decide +kernel
theorem dX12_counter_79 : decode cX12_counter 79 = .ok (.getfield 32, 3) := by decide +kernel
theorem dX12_counter_82 : decode cX12_counter 82 = .ok (.iload 5, 2) := by decide +kernel
theorem dX12_counter_84 : decode cX12_counter 84 = .ok (.iaload, 1) := by decide +kernel
theorem dX12_counter_85 : decode cX12_counter 85 = .ok (.i2l, 1) := by decide +kernel
theorem dX12_counter_86 : decode cX12_counter 86 = .ok (.goto 20, 3) := by decide +kernel
theorem dX12_counter_89 : decode cX12_counter 89 = .ok (.iload 4, 2) := by decide +kernel
theorem dX12_counter_91 : decode cX12_counter 91 = .ok (.iconst 1, 1) := by decide +kernel
theorem dX12_counter_92 : decode cX12_counter 92 = .ok (.if_icmp .ne 13, 3) := by decide +kernel
theorem dX12_counter_95 : decode cX12_counter 95 = .ok (.aload_n 0, 1) := by decide +kernel
theorem dX12_counter_96 : decode cX12_counter 96 = .ok (.getfield 35, 3) := by decide +kernel
theorem dX12_counter_99 : decode cX12_counter 99 = .ok (.iload 5, 2) := by decide +kernel
theorem dX12_counter_101 : decode cX12_counter 101 = .ok (.laload, 1) := by decide +kernel
theorem dX12_counter_102 : decode cX12_counter 102 = .ok (.goto 4, 3) := by decide +kernel
theorem dX12_counter_105 : decode cX12_counter 105 = .ok (.lconst 0, 1) := by decide +kernel
theorem dX12_counter_106 : decode cX12_counter 106 = .ok (.lreturn, 1) := by decide +kernel
theorem dX12_counter_107 : decode cX12_counter 107 = .ok (.iload 4, 2) := by decide +kernel
theorem dX12_counter_109 : decode cX12_counter 109 = .ok (.ifCond .ne 14, 3) := by decide +kernel
theorem dX12_counter_112 : decode cX12_counter 112 = .ok (.aload_n 0, 1) := by decide +kernel
theorem dX12_counter_113 : decode cX12_counter 113 = .ok (.getfield 41, 3) := by decide +kernel
theorem dX12_counter_116 : decode cX12_counter 116 = .ok (.iload 5, 2) := by decide +kernel
theorem dX12_counter_118 : decode cX12_counter 118 = .ok (.iaload, 1) := by decide +kernel
theorem dX12_counter_119 : decode cX12_counter 119 = .ok (.i2l, 1) := by decide +kernel
theorem dX12_counter_120 : decode cX12_counter 120 = .ok (.goto 26, 3) := by decide +kernel
theorem dX12_counter_123 : decode cX12_counter 123 = .ok (.iload 4, 2) := by decide +kernel
theorem dX12_counter_125 : decode cX12_counter 125 = .ok (.iconst 1, 1) := by decide +kernel
theorem dX12_counter_126 : decode cX12_counter 126 = .ok (.if_icmp .ne 13, 3) := by decide +kernel
theorem dX12_counter_129 : decode cX12_counter 129 = .ok (.aload_n 0, 1) := by decide +kernel
theorem dX12_counter_130 : decode cX12_counter 130 = .ok (.getfield 44, 3) := by decide +kernel
theorem dX12_counter_133 : decode cX12_counter 133 = .ok (.iload 5, 2) := by decide +kernel
theorem dX12_counter_135 : decode cX12_counter 135 = .ok (.laload, 1) := by decide +kernel
theorem dX12_counter_136 : decode cX12_counter 136 = .ok (.goto 10, 3) := by decide +kernel
theorem dX12_counter_139 : decode cX12_counter 139 = .ok (.aload_n 0, 1) := by decide +kernel
theorem dX12_counter_140 : decode cX12_counter 140 = .ok (.getfield 47, 3) := by decide +kernel
theorem dX12_counter_143 : decode cX12_counter 143 = .ok (.iload 5, 2) := by decide +kernel
theorem dX12_counter_145 : decode cX12_counter 145 = .ok (.laload, 1) := by decide +kernel
theorem dX12_counter_146 : decode cX12_counter 146 = .ok (.lreturn, 1) := by decide +kernel
theorem dX12_state_0 : decode cX12_state 0 = .ok (.iload_n 1, 1) := by decide +kernel
theorem dX12_state_1 : decode cX12_state 1 = .ok (.invokestatic 146, 3) := by decide +kernel
theorem dX12_state_4 : decode cX12_state 4 = .ok (.ifCond .ne 7, 3) := by decide +kernel
theorem dX12_state_7 : decode cX12_state 7 = .ok (.ldc2_w 151, 3) := by decide +kernel
theorem dX12_state_10 : decode cX12_state 10 = .ok (.lreturn, 1) := by decide +kernel
theorem dX12_state_11 : decode cX12_state 11 = .ok (.iload_n 2, 1) := by decide +kernel
theorem dX12_state_12 : decode cX12_state 12 = .ok (.tableswitch 88 0 4 #[36, 44, 51, 59, 65], 36) := by decide +kernel
theorem dX12_state_48 : decode cX12_state 48 = .ok (.aload_n 0, 1) := by decide +kernel
theorem dX12_state_49 : decode cX12_state 49 = .ok (.getfield 26, 3) := by decide +kernel
theorem dX12_state_52 : decode cX12_state 52 = .ok (.iload_n 1, 1) := by decide +kernel
theorem dX12_state_53 : decode cX12_state 53 = .ok (.iaload, 1) := by decide +kernel
theorem dX12_state_54 : decode cX12_state 54 = .ok (.i2l, 1) := by decide +kernel
theorem dX12_state_55 : decode cX12_state 55 = .ok (.lreturn, 1) := by decide +kernel
theorem dX12_state_56 : decode cX12_state 56 = .ok (.aload_n 0, 1) := by decide +kernel
theorem dX12_state_57 : decode cX12_state 57 = .ok (.getfield 29, 3) := by decide +kernel
theorem dX12_state_60 : decode cX12_state 60 = .ok (.iload_n 1, 1) := by decide +kernel
theorem dX12_state_61 : decode cX12_state 61 = .ok (.laload, 1) := by decide +kernel
theorem dX12_state_62 : decode cX12_state 62 = .ok (.lreturn, 1) := by decide +kernel
theorem dX12_state_63 : decode cX12_state 63 = .ok (.aload_n 0, 1) := by decide +kernel
theorem dX12_state_64 : decode cX12_state 64 = .ok (.getfield 38, 3) := by decide +kernel
theorem dX12_state_67 : decode cX12_state 67 = .ok (.iload_n 1, 1) := by decide +kernel
theorem dX12_state_68 : decode cX12_state 68 = .ok (.iaload, 1) := by decide +kernel
theorem dX12_state_69 : decode cX12_state 69 = .ok (.i2l, 1) := by decide +kernel
theorem dX12_state_70 : decode cX12_state 70 = .ok (.lreturn, 1) := by decide +kernel
theorem dX12_state_71 : decode cX12_state 71 = .ok (.aload_n 0, 1) := by decide +kernel
theorem dX12_state_72 : decode cX12_state 72 = .ok (.iload_n 1, 1) := by decide +kernel
theorem dX12_state_73 : decode cX12_state 73 = .ok (.invokevirtual 180, 3) := by decide +kernel
theorem dX12_state_76 : decode cX12_state 76 = .ok (.lreturn, 1) := by decide +kernel
theorem dX12_state_77 : decode cX12_state 77 = .ok (.aload_n 0, 1) := by decide +kernel
theorem dX12_state_78 : decode cX12_state 78 = .ok (.getfield 53, 3) := by decide +kernel
theorem dX12_state_81 : decode cX12_state 81 = .ok (.iload_n 1, 1) := by decide +kernel
theorem dX12_state_82 : decode cX12_state 82 = .ok (.baload, 1) := by decide +kernel
theorem dX12_state_83 : decode cX12_state 83 = .ok (.ifCond .eq 9, 3) := by decide +kernel
theorem dX12_state_86 : decode cX12_state 86 = .ok (.ldc2_w 151, 3) := by decide +kernel
theorem dX12_state_89 : decode cX12_state 89 = .ok (.goto 10, 3) := by decide +kernel
theorem dX12_state_92 : decode cX12_state 92 = .ok (.aload_n 0, 1) := by decide +kernel
theorem dX12_state_93 : decode cX12_state 93 = .ok (.getfield 50, 3) := by decide +kernel
theorem dX12_state_96 : decode cX12_state 96 = .ok (.iload_n 1, 1) := by decide +kernel
theorem dX12_state_97 : decode cX12_state 97 = .ok (.iaload, 1) := by decide +kernel
theorem dX12_state_98 : decode cX12_state 98 = .ok (.i2l, 1) := by decide +kernel
theorem dX12_state_99 : decode cX12_state 99 = .ok (.lreturn, 1) := by decide +kernel
theorem dX12_state_100 : decode cX12_state 100 = .ok (.ldc2_w 151, 3) := by decide +kernel
theorem dX12_state_103 : decode cX12_state 103 = .ok (.lreturn, 1) := by decide +kernel
theorem dX12_report_0 : decode cX12_report 0 = .ok (.iload_n 1, 1) := by decide +kernel
theorem dX12_report_1 : decode cX12_report 1 = .ok (.invokestatic 146, 3) := by decide +kernel
theorem dX12_report_4 : decode cX12_report 4 = .ok (.ifCond .eq 22, 3) := by decide +kernel
theorem dX12_report_7 : decode cX12_report 7 = .ok (.iload_n 2, 1) := by decide +kernel
theorem dX12_report_8 : decode cX12_report 8 = .ok (.iconst 0, 1) := by decide +kernel
theorem dX12_report_9 : decode cX12_report 9 = .ok (.iconst 4, 1) := by decide +kernel
theorem dX12_report_10 : decode cX12_report 10 = .ok (.invokestatic 101, 3) := by decide +kernel
theorem dX12_report_13 : decode cX12_report 13 = .ok (.ifCond .eq 13, 3) := by decide +kernel
theorem dX12_report_16 : decode cX12_report 16 = .ok (.iload_n 3, 1) := by decide +kernel
theorem dX12_report_17 : decode cX12_report 17 = .ok (.iconst 1, 1) := by decide +kernel
theorem dX12_report_18 : decode cX12_report 18 = .ok (.ldc 199, 2) := by decide +kernel
theorem dX12_report_20 : decode cX12_report 20 = .ok (.invokestatic 101, 3) := by decide +kernel
theorem dX12_report_23 : decode cX12_report 23 = .ok (.ifCond .ne 5, 3) := by decide +kernel
theorem dX12_report_26 : decode cX12_report 26 = .ok (.iconst (-1), 1) := by decide +kernel
theorem dX12_report_27 : decode cX12_report 27 = .ok (.ireturn, 1) := by decide +kernel
theorem dX12_report_28 : decode cX12_report 28 = .ok (.iconst 0, 1) := by decide +kernel
theorem dX12_report_29 : decode cX12_report 29 = .ok (.istore 5, 2) := by decide +kernel
theorem dX12_report_31 : decode cX12_report 31 = .ok (.aload_n 0, 1) := by decide +kernel
theorem dX12_report_32 : decode cX12_report 32 = .ok (.iconst 0, 1) := by decide +kernel
theorem dX12_report_33 : decode cX12_report 33 = .ok (.putfield 200, 3) := by decide +kernel
theorem dX12_report_36 : decode cX12_report 36 = .ok (.iconst 0, 1) := by decide +kernel
theorem dX12_report_37 : decode cX12_report 37 = .ok (.istore 6, 2) := by decide +kernel
theorem dX12_report_39 : decode cX12_report 39 = .ok (.iload 6, 2) := by decide +kernel
theorem dX12_report_41 : decode cX12_report 41 = .ok (.aload_n 0, 1) := by decide +kernel
theorem dX12_report_42 : decode cX12_report 42 = .ok (.getfield 87, 3) := by decide +kernel
theorem dX12_report_45 : decode cX12_report 45 = .ok (.if_icmp .ge 55, 3) := by decide +kernel
theorem dX12_report_48 : decode cX12_report 48 = .ok (.aload_n 0, 1) := by decide +kernel
theorem dX12_report_49 : decode cX12_report 49 = .ok (.iload_n 1, 1) := by decide +kernel
theorem dX12_report_50 : decode cX12_report 50 = .ok (.iload_n 2, 1) := by decide +kernel
theorem dX12_report_51 : decode cX12_report 51 = .ok (.iload 6, 2) := by decide +kernel
theorem dX12_report_53 : decode cX12_report 53 = .ok (.iload 4, 2) := by decide +kernel
theorem dX12_report_55 : decode cX12_report 55 = .ok (.ifCond .eq 7, 3) := by decide +kernel
theorem dX12_report_58 : decode cX12_report 58 = .ok (.iconst 1, 1) := by decide +kernel
theorem dX12_report_59 : decode cX12_report 59 = .ok (.goto 4, 3) := by decide +kernel
theorem dX12_report_62 : decode cX12_report 62 = .ok (.iconst 2, 1) := by decide +kernel
theorem dX12_report_63 : decode cX12_report 63 = .ok (.invokevirtual 196, 3) := by decide +kernel
theorem dX12_report_66 : decode cX12_report 66 = .ok (.lstore 7, 2) := by decide +kernel
theorem dX12_report_68 : decode cX12_report 68 = .ok (.lload 7, 2) := by decide +kernel
theorem dX12_report_70 : decode cX12_report 70 = .ok (.aload_n 0, 1) := by decide +kernel
theorem dX12_report_71 : decode cX12_report 71 = .ok (.getfield 16, 3) := by decide +kernel
theorem dX12_report_74 : decode cX12_report 74 = .ok (.iload_n 1, 1) := by decide +kernel
theorem dX12_report_75 : decode cX12_report 75 = .ok (.laload, 1) := by decide +kernel
theorem dX12_report_76 : decode cX12_report 76 = .ok (.iload_n 3, 1) := by decide +kernel
theorem dX12_report_77 : decode cX12_report 77 = .ok (.i2l, 1) := by decide +kernel
theorem dX12_report_78 : decode cX12_report 78 = .ok (.ldiv, 1) := by decide +kernel
theorem dX12_report_79 : decode cX12_report 79 = .ok (.lcmp, 1) := by decide +kernel
theorem dX12_report_80 : decode cX12_report 80 = .ok (.ifCond .le 14, 3) := by decide +kernel
theorem dX12_report_83 : decode cX12_report 83 = .ok (.iinc 5 1, 3) := by decide +kernel
theorem dX12_report_86 : decode cX12_report 86 = .ok (.aload_n 0, 1) := by decide +kernel
theorem dX12_report_87 : decode cX12_report 87 = .ok (.iload 6, 2) := by decide +kernel
theorem dX12_report_89 : decode cX12_report 89 = .ok (.lload 7, 2) := by decide +kernel
theorem dX12_report_91 : decode cX12_report 91 = .ok (.invokevirtual 203, 3) := by decide +kernel
theorem dX12_report_94 : decode cX12_report 94 = .ok (.iinc 6 1, 3) := by decide +kernel
theorem dX12_report_97 : decode cX12_report 97 = .ok (.goto (-58), 3) := by decide +kernel
theorem dX12_report_100 : decode cX12_report 100 = .ok (.iload 5, 2) := by decide +kernel
theorem dX12_report_102 : decode cX12_report 102 = .ok (.ireturn, 1) := by decide +kernel
theorem dX12_reports_0 : decode cX12_reports 0 = .ok (.aload_n 0, 1) := by decide +kernel
theorem dX12_reports_1 : decode cX12_reports 1 = .ok (.getfield 200, 3) := by decide +kernel
theorem dX12_reports_4 : decode cX12_reports 4 = .ok (.sipush 300, 3) := by decide +kernel
theorem dX12_reports_7 : decode cX12_reports 7 = .ok (.if_icmp .ge 10, 3) := by decide +kernel
theorem dX12_reports_10 : decode cX12_reports 10 = .ok (.aload_n 0, 1) := by decide +kernel
theorem dX12_reports_11 : decode cX12_reports 11 = .ok (.getfield 200, 3) := by decide +kernel
theorem dX12_reports_14 : decode cX12_reports 14 = .ok (.goto 6, 3) := by decide +kernel
theorem dX12_reports_17 : decode cX12_reports 17 = .ok (.sipush 299, 3) := by decide +kernel
theorem dX12_reports_20 : decode cX12_reports 20 = .ok (.istore 4, 2) := by decide +kernel
theorem dX12_reports_22 : decode cX12_reports 22 = .ok (.aload_n 0, 1) := by decide +kernel
theorem dX12_reports_23 : decode cX12_reports 23 = .ok (.getfield 200, 3) := by decide +kernel
theorem dX12_reports_26 : decode cX12_reports 26 = .ok (.sipush 300, 3) := by decide +kernel
theorem dX12_reports_29 : decode cX12_reports 29 = .ok (.if_icmp .ne 17, 3) := by decide +kernel
theorem dX12_reports_32 : decode cX12_reports 32 = .ok (.aload_n 0, 1) := by decide +kernel
theorem dX12_reports_33 : decode cX12_reports 33 = .ok (.getfield 66, 3) := by decide +kernel
theorem dX12_reports_36 : decode cX12_reports 36 = .ok (.sipush 299, 3) := by decide +kernel
theorem dX12_reports_39 : decode cX12_reports 39 = .ok (.laload, 1) := by decide +kernel
theorem dX12_reports_40 : decode cX12_reports 40 = .ok (.lload_n 2, 1) := by decide +kernel
theorem dX12_reports_41 : decode cX12_reports 41 = .ok (.lcmp, 1) := by decide +kernel
theorem dX12_reports_42 : decode cX12_reports 42 = .ok (.ifCond .lt 4, 3) := by decide +kernel
theorem dX12_reports_45 : decode cX12_reports 45 = .ok (.return_, 1) := by decide +kernel
theorem dX12_reports_46 : decode cX12_reports 46 = .ok (.iload 4, 2) := by decide +kernel
theorem dX12_reports_48 : decode cX12_reports 48 = .ok (.ifCond .le 55, 3) := by decide +kernel
theorem dX12_reports_51 : decode cX12_reports 51 = .ok (.aload_n 0, 1) := by decide +kernel
theorem dX12_reports_52 : decode cX12_reports 52 = .ok (.getfield 66, 3) := by decide +kernel
theorem dX12_reports_55 : decode cX12_reports 55 = .ok (.iload 4, 2) := by decide +kernel
theorem dX12_reports_57 : decode cX12_reports 57 = .ok (.iconst 1, 1) := by decide +kernel
theorem dX12_reports_58 : decode cX12_reports 58 = .ok (.isub, 1) := by decide +kernel
theorem dX12_reports_59 : decode cX12_reports 59 = .ok (.laload, 1) := by decide +kernel
theorem dX12_reports_60 : decode cX12_reports 60 = .ok (.lload_n 2, 1) := by decide +kernel
theorem dX12_reports_61 : decode cX12_reports 61 = .ok (.lcmp, 1) := by decide +kernel
theorem dX12_reports_62 : decode cX12_reports 62 = .ok (.ifCond .ge 41, 3) := by decide +kernel
theorem dX12_reports_65 : decode cX12_reports 65 = .ok (.aload_n 0, 1) := by decide +kernel
theorem dX12_reports_66 : decode cX12_reports 66 = .ok (.getfield 66, 3) := by decide +kernel
theorem dX12_reports_69 : decode cX12_reports 69 = .ok (.iload 4, 2) := by decide +kernel
theorem dX12_reports_71 : decode cX12_reports 71 = .ok (.aload_n 0, 1) := by decide +kernel
theorem dX12_reports_72 : decode cX12_reports 72 = .ok (.getfield 66, 3) := by decide +kernel
theorem dX12_reports_75 : decode cX12_reports 75 = .ok (.iload 4, 2) := by decide +kernel
theorem dX12_reports_77 : decode cX12_reports 77 = .ok (.iconst 1, 1) := by decide +kernel
theorem dX12_reports_78 : decode cX12_reports 78 = .ok (.isub, 1) := by decide +kernel
theorem dX12_reports_79 : decode cX12_reports 79 = .ok (.laload, 1) := by decide +kernel
theorem dX12_reports_80 : decode cX12_reports 80 = .ok (.lastore, 1) := by decide +kernel
theorem dX12_reports_81 : decode cX12_reports 81 = .ok (.aload_n 0, 1) := by decide +kernel
theorem dX12_reports_82 : decode cX12_reports 82 = .ok (.getfield 63, 3) := by decide +kernel
theorem dX12_reports_85 : decode cX12_reports 85 = .ok (.iload 4, 2) := by decide +kernel
theorem dX12_reports_87 : decode cX12_reports 87 = .ok (.aload_n 0, 1) := by decide +kernel
theorem dX12_reports_88 : decode cX12_reports 88 = .ok (.getfield 63, 3) := by decide +kernel
theorem dX12_reports_91 : decode cX12_reports 91 = .ok (.iload 4, 2) := by decide +kernel
theorem dX12_reports_93 : decode cX12_reports 93 = .ok (.iconst 1, 1) := by decide +kernel
theorem dX12_reports_94 : decode cX12_reports 94 = .ok (.isub, 1) := by decide +kernel
theorem dX12_reports_95 : decode cX12_reports 95 = .ok (.iaload, 1) := by decide +kernel
theorem dX12_reports_96 : decode cX12_reports 96 = .ok (.iastore, 1) := by decide +kernel
theorem dX12_reports_97 : decode cX12_reports 97 = .ok (.iinc 4 (-1), 3) := by decide +kernel
theorem dX12_reports_100 : decode cX12_reports 100 = .ok (.goto (-54), 3) := by decide +kernel
theorem dX12_reports_103 : decode cX12_reports 103 = .ok (.aload_n 0, 1) := by decide +kernel
theorem dX12_reports_104 : decode cX12_reports 104 = .ok (.getfield 66, 3) := by decide +kernel
theorem dX12_reports_107 : decode cX12_reports 107 = .ok (.iload 4, 2) := by decide +kernel
theorem dX12_reports_109 : decode cX12_reports 109 = .ok (.lload_n 2, 1) := by decide +kernel
theorem dX12_reports_110 : decode cX12_reports 110 = .ok (.lastore, 1) := by decide +kernel
theorem dX12_reports_111 : decode cX12_reports 111 = .ok (.aload_n 0, 1) := by decide +kernel
theorem dX12_reports_112 : decode cX12_reports 112 = .ok (.getfield 63, 3) := by decide +kernel
theorem dX12_reports_115 : decode cX12_reports 115 = .ok (.iload 4, 2) := by decide +kernel
theorem dX12_reports_117 : decode cX12_reports 117 = .ok (.iload_n 1, 1) := by decide +kernel
theorem dX12_reports_118 : decode cX12_reports 118 = .ok (.iastore, 1) := by decide +kernel
theorem dX12_reports_119 : decode cX12_reports 119 = .ok (.aload_n 0, 1) := by decide +kernel
theorem dX12_reports_120 : decode cX12_reports 120 = .ok (.aload_n 0, 1) := by decide +kernel
theorem dX12_reports_121 : decode cX12_reports 121 = .ok (.getfield 200, 3) := by decide +kernel
theorem dX12_reports_124 : decode cX12_reports 124 = .ok (.sipush 300, 3) := by decide +kernel
theorem dX12_reports_127 : decode cX12_reports 127 = .ok (.if_icmp .ge 12, 3) := by decide +kernel
theorem dX12_reports_130 : decode cX12_reports 130 = .ok (.aload_n 0, 1) := by decide +kernel
theorem dX12_reports_131 : decode cX12_reports 131 = .ok (.getfield 200, 3) := by decide +kernel
theorem dX12_reports_134 : decode cX12_reports 134 = .ok (.iconst 1, 1) := by decide +kernel
theorem dX12_reports_135 : decode cX12_reports 135 = .ok (.iadd, 1) := by decide +kernel
theorem dX12_reports_136 : decode cX12_reports 136 = .ok (.goto 6, 3) := by decide +kernel
theorem dX12_reports_139 : decode cX12_reports 139 = .ok (.sipush 300, 3) := by decide +kernel
theorem dX12_reports_142 : decode cX12_reports 142 = .ok (.putfield 200, 3) := by decide +kernel
theorem dX12_reports_145 : decode cX12_reports 145 = .ok (.return_, 1) := by decide +kernel
theorem dX12_reported_0 : decode cX12_reported 0 = .ok (.iload_n 1, 1) := by decide +kernel
theorem dX12_reported_1 : decode cX12_reported 1 = .ok (.iconst 0, 1) := by decide +kernel
theorem dX12_reported_2 : decode cX12_reported 2 = .ok (.aload_n 0, 1) := by decide +kernel
theorem dX12_reported_3 : decode cX12_reported 3 = .ok (.getfield 200, 3) := by decide +kernel
theorem dX12_reported_6 : decode cX12_reported 6 = .ok (.iconst 1, 1) := by decide +kernel
theorem dX12_reported_7 : decode cX12_reported 7 = .ok (.isub, 1) := by decide +kernel
theorem dX12_reported_8 : decode cX12_reported 8 = .ok (.invokestatic 101, 3) := by decide +kernel
theorem dX12_reported_11 : decode cX12_reported 11 = .ok (.ifCond .eq 12, 3) := by decide +kernel
theorem dX12_reported_14 : decode cX12_reported 14 = .ok (.iload_n 2, 1) := by decide +kernel
theorem dX12_reported_15 : decode cX12_reported 15 = .ok (.iconst 0, 1) := by decide +kernel
theorem dX12_reported_16 : decode cX12_reported 16 = .ok (.iconst 1, 1) := by decide +kernel
theorem dX12_reported_17 : decode cX12_reported 17 = .ok (.invokestatic 101, 3) := by decide +kernel
theorem dX12_reported_20 : decode cX12_reported 20 = .ok (.ifCond .ne 7, 3) := by decide +kernel
theorem dX12_reported_23 : decode cX12_reported 23 = .ok (.ldc2_w 151, 3) := by decide +kernel
theorem dX12_reported_26 : decode cX12_reported 26 = .ok (.lreturn, 1) := by decide +kernel
theorem dX12_reported_27 : decode cX12_reported 27 = .ok (.iload_n 2, 1) := by decide +kernel
theorem dX12_reported_28 : decode cX12_reported 28 = .ok (.ifCond .ne 13, 3) := by decide +kernel
theorem dX12_reported_31 : decode cX12_reported 31 = .ok (.aload_n 0, 1) := by decide +kernel
theorem dX12_reported_32 : decode cX12_reported 32 = .ok (.getfield 63, 3) := by decide +kernel
theorem dX12_reported_35 : decode cX12_reported 35 = .ok (.iload_n 1, 1) := by decide +kernel
theorem dX12_reported_36 : decode cX12_reported 36 = .ok (.iaload, 1) := by decide +kernel
theorem dX12_reported_37 : decode cX12_reported 37 = .ok (.i2l, 1) := by decide +kernel
theorem dX12_reported_38 : decode cX12_reported 38 = .ok (.goto 9, 3) := by decide +kernel
theorem dX12_reported_41 : decode cX12_reported 41 = .ok (.aload_n 0, 1) := by decide +kernel
theorem dX12_reported_42 : decode cX12_reported 42 = .ok (.getfield 66, 3) := by decide +kernel
theorem dX12_reported_45 : decode cX12_reported 45 = .ok (.iload_n 1, 1) := by decide +kernel
theorem dX12_reported_46 : decode cX12_reported 46 = .ok (.laload, 1) := by decide +kernel
theorem dX12_reported_47 : decode cX12_reported 47 = .ok (.lreturn, 1) := by decide +kernel
theorem dX12_overcounts_0 : decode cX12_overcounts 0 = .ok (.iload_n 1, 1) := by decide +kernel
theorem dX12_overcounts_1 : decode cX12_overcounts 1 = .ok (.invokestatic 146, 3) := by decide +kernel
theorem dX12_overcounts_4 : decode cX12_overcounts 4 = .ok (.ifCond .eq 43, 3) := by decide +kernel
theorem dX12_overcounts_7 : decode cX12_overcounts 7 = .ok (.aload_n 0, 1) := by decide +kernel
theorem dX12_overcounts_8 : decode cX12_overcounts 8 = .ok (.iload_n 2, 1) := by decide +kernel
theorem dX12_overcounts_9 : decode cX12_overcounts 9 = .ok (.invokevirtual 105, 3) := by decide +kernel
theorem dX12_overcounts_12 : decode cX12_overcounts 12 = .ok (.ifCond .eq 35, 3) := by decide +kernel
theorem dX12_overcounts_15 : decode cX12_overcounts 15 = .ok (.aload_n 0, 1) := by decide +kernel
theorem dX12_overcounts_16 : decode cX12_overcounts 16 = .ok (.getfield 87, 3) := by decide +kernel
theorem dX12_overcounts_19 : decode cX12_overcounts 19 = .ok (.sipush 131, 3) := by decide +kernel
theorem dX12_overcounts_22 : decode cX12_overcounts 22 = .ok (.if_icmp .gt 25, 3) := by decide +kernel
theorem dX12_overcounts_25 : decode cX12_overcounts 25 = .ok (.aload_n 0, 1) := by decide +kernel
theorem dX12_overcounts_26 : decode cX12_overcounts 26 = .ok (.getfield 53, 3) := by decide +kernel
theorem dX12_overcounts_29 : decode cX12_overcounts 29 = .ok (.iload_n 1, 1) := by decide +kernel
theorem dX12_overcounts_30 : decode cX12_overcounts 30 = .ok (.baload, 1) := by decide +kernel
theorem dX12_overcounts_31 : decode cX12_overcounts 31 = .ok (.ifCond .ne 16, 3) := by decide +kernel
theorem dX12_overcounts_34 : decode cX12_overcounts 34 = .ok (.aload_n 0, 1) := by decide +kernel
theorem dX12_overcounts_35 : decode cX12_overcounts 35 = .ok (.getfield 16, 3) := by decide +kernel
theorem dX12_overcounts_38 : decode cX12_overcounts 38 = .ok (.iload_n 1, 1) := by decide +kernel
theorem dX12_overcounts_39 : decode cX12_overcounts 39 = .ok (.laload, 1) := by decide +kernel
theorem dX12_overcounts_40 : decode cX12_overcounts 40 = .ok (.ldc2_w 205, 3) := by decide +kernel
theorem dX12_overcounts_43 : decode cX12_overcounts 43 = .ok (.lcmp, 1) := by decide +kernel
theorem dX12_overcounts_44 : decode cX12_overcounts 44 = .ok (.ifCond .le 7, 3) := by decide +kernel
theorem dX12_overcounts_47 : decode cX12_overcounts 47 = .ok (.ldc2_w 151, 3) := by decide +kernel
theorem dX12_overcounts_50 : decode cX12_overcounts 50 = .ok (.lreturn, 1) := by decide +kernel
theorem dX12_overcounts_51 : decode cX12_overcounts 51 = .ok (.lconst 0, 1) := by decide +kernel
theorem dX12_overcounts_52 : decode cX12_overcounts 52 = .ok (.lstore_n 3, 1) := by decide +kernel
theorem dX12_overcounts_53 : decode cX12_overcounts 53 = .ok (.iconst 1, 1) := by decide +kernel
theorem dX12_overcounts_54 : decode cX12_overcounts 54 = .ok (.istore 5, 2) := by decide +kernel
theorem dX12_overcounts_56 : decode cX12_overcounts 56 = .ok (.iload 5, 2) := by decide +kernel
theorem dX12_overcounts_58 : decode cX12_overcounts 58 = .ok (.aload_n 0, 1) := by decide +kernel
theorem dX12_overcounts_59 : decode cX12_overcounts 59 = .ok (.getfield 87, 3) := by decide +kernel
theorem dX12_overcounts_62 : decode cX12_overcounts 62 = .ok (.if_icmp .ge 113, 3) := by decide +kernel
theorem dX12_overcounts_65 : decode cX12_overcounts 65 = .ok (.iconst 0, 1) := by decide +kernel
theorem dX12_overcounts_66 : decode cX12_overcounts 66 = .ok (.istore 6, 2) := by decide +kernel
theorem dX12_overcounts_68 : decode cX12_overcounts 68 = .ok (.iload 6, 2) := by decide +kernel
theorem dX12_overcounts_70 : decode cX12_overcounts 70 = .ok (.aload_n 0, 1) := by decide +kernel
theorem dX12_overcounts_71 : decode cX12_overcounts 71 = .ok (.getfield 87, 3) := by decide +kernel
theorem dX12_overcounts_74 : decode cX12_overcounts 74 = .ok (.if_icmp .ge 95, 3) := by decide +kernel
theorem dX12_overcounts_77 : decode cX12_overcounts 77 = .ok (.aload_n 0, 1) := by decide +kernel
theorem dX12_overcounts_78 : decode cX12_overcounts 78 = .ok (.iload 5, 2) := by decide +kernel
theorem dX12_overcounts_80 : decode cX12_overcounts 80 = .ok (.iload 6, 2) := by decide +kernel
theorem dX12_overcounts_82 : decode cX12_overcounts 82 = .ok (.iload_n 2, 1) := by decide +kernel
theorem dX12_overcounts_83 : decode cX12_overcounts 83 = .ok (.invokevirtual 108, 3) := by decide +kernel
theorem dX12_overcounts_86 : decode cX12_overcounts 86 = .ok (.istore 7, 2) := by decide +kernel
theorem dX12_overcounts_88 : decode cX12_overcounts 88 = .ok (.sipush 300, 3) := by decide +kernel
theorem dX12_overcounts_91 : decode cX12_overcounts 91 = .ok (.iload_n 1, 1) := by decide +kernel
theorem dX12_overcounts_92 : decode cX12_overcounts 92 = .ok (.imul, 1) := by decide +kernel
theorem dX12_overcounts_93 : decode cX12_overcounts 93 = .ok (.istore 8, 2) := by decide +kernel
theorem dX12_overcounts_95 : decode cX12_overcounts 95 = .ok (.iload 8, 2) := by decide +kernel
theorem dX12_overcounts_97 : decode cX12_overcounts 97 = .ok (.sipush 300, 3) := by decide +kernel
theorem dX12_overcounts_100 : decode cX12_overcounts 100 = .ok (.iload_n 1, 1) := by decide +kernel
theorem dX12_overcounts_101 : decode cX12_overcounts 101 = .ok (.imul, 1) := by decide +kernel
theorem dX12_overcounts_102 : decode cX12_overcounts 102 = .ok (.aload_n 0, 1) := by decide +kernel
theorem dX12_overcounts_103 : decode cX12_overcounts 103 = .ok (.getfield 50, 3) := by decide +kernel
theorem dX12_overcounts_106 : decode cX12_overcounts 106 = .ok (.iload_n 1, 1) := by decide +kernel
theorem dX12_overcounts_107 : decode cX12_overcounts 107 = .ok (.iaload, 1) := by decide +kernel
theorem dX12_overcounts_108 : decode cX12_overcounts 108 = .ok (.iadd, 1) := by decide +kernel
theorem dX12_overcounts_109 : decode cX12_overcounts 109 = .ok (.if_icmp .ge 54, 3) := by decide +kernel
theorem dX12_overcounts_112 : decode cX12_overcounts 112 = .ok (.lload_n 3, 1) := by decide +kernel
theorem dX12_overcounts_113 : decode cX12_overcounts 113 = .ok (.aload_n 0, 1) := by decide +kernel
theorem dX12_overcounts_114 : decode cX12_overcounts 114 = .ok (.getfield 57, 3) := by decide +kernel
theorem dX12_overcounts_117 : decode cX12_overcounts 117 = .ok (.iload 8, 2) := by decide +kernel
theorem dX12_overcounts_119 : decode cX12_overcounts 119 = .ok (.iaload, 1) := by decide +kernel
theorem dX12_overcounts_120 : decode cX12_overcounts 120 = .ok (.iload_n 2, 1) := by decide +kernel
theorem dX12_overcounts_121 : decode cX12_overcounts 121 = .ok (.if_icmp .eq 33, 3) := by decide +kernel
theorem dX12_overcounts_124 : decode cX12_overcounts 124 = .ok (.aload_n 0, 1) := by decide +kernel
theorem dX12_overcounts_125 : decode cX12_overcounts 125 = .ok (.iload 5, 2) := by decide +kernel
theorem dX12_overcounts_127 : decode cX12_overcounts 127 = .ok (.iload 6, 2) := by decide +kernel
theorem dX12_overcounts_129 : decode cX12_overcounts 129 = .ok (.aload_n 0, 1) := by decide +kernel
theorem dX12_overcounts_130 : decode cX12_overcounts 130 = .ok (.getfield 57, 3) := by decide +kernel
theorem dX12_overcounts_133 : decode cX12_overcounts 133 = .ok (.iload 8, 2) := by decide +kernel
theorem dX12_overcounts_135 : decode cX12_overcounts 135 = .ok (.iaload, 1) := by decide +kernel
theorem dX12_overcounts_136 : decode cX12_overcounts 136 = .ok (.invokevirtual 108, 3) := by decide +kernel
theorem dX12_overcounts_139 : decode cX12_overcounts 139 = .ok (.iload 7, 2) := by decide +kernel
theorem dX12_overcounts_141 : decode cX12_overcounts 141 = .ok (.if_icmp .ne 13, 3) := by decide +kernel
theorem dX12_overcounts_144 : decode cX12_overcounts 144 = .ok (.aload_n 0, 1) := by decide +kernel
theorem dX12_overcounts_145 : decode cX12_overcounts 145 = .ok (.getfield 60, 3) := by decide +kernel
theorem dX12_overcounts_148 : decode cX12_overcounts 148 = .ok (.iload 8, 2) := by decide +kernel
theorem dX12_overcounts_150 : decode cX12_overcounts 150 = .ok (.laload, 1) := by decide +kernel
theorem dX12_overcounts_151 : decode cX12_overcounts 151 = .ok (.goto 4, 3) := by decide +kernel
theorem dX12_overcounts_154 : decode cX12_overcounts 154 = .ok (.lconst 0, 1) := by decide +kernel
theorem dX12_overcounts_155 : decode cX12_overcounts 155 = .ok (.ladd, 1) := by decide +kernel
theorem dX12_overcounts_156 : decode cX12_overcounts 156 = .ok (.lstore_n 3, 1) := by decide +kernel
theorem dX12_overcounts_157 : decode cX12_overcounts 157 = .ok (.iinc 8 1, 3) := by decide +kernel
theorem dX12_overcounts_160 : decode cX12_overcounts 160 = .ok (.goto (-65), 3) := by decide +kernel
theorem dX12_overcounts_163 : decode cX12_overcounts 163 = .ok (.iinc 6 1, 3) := by decide +kernel
theorem dX12_overcounts_166 : decode cX12_overcounts 166 = .ok (.goto (-98), 3) := by decide +kernel
theorem dX12_overcounts_169 : decode cX12_overcounts 169 = .ok (.iinc 5 1, 3) := by decide +kernel
theorem dX12_overcounts_172 : decode cX12_overcounts 172 = .ok (.goto (-116), 3) := by decide +kernel
theorem dX12_overcounts_175 : decode cX12_overcounts 175 = .ok (.lload_n 3, 1) := by decide +kernel
theorem dX12_overcounts_176 : decode cX12_overcounts 176 = .ok (.lreturn, 1) := by decide +kernel
theorem dX12_isWithin_0 : decode cX12_isWithin 0 = .ok (.iconst 1, 1) := by decide +kernel
theorem dX12_isWithin_1 : decode cX12_isWithin 1 = .ok (.istore_n 3, 1) := by decide +kernel
theorem dX12_isWithin_2 : decode cX12_isWithin 2 = .ok (.sipush 300, 3) := by decide +kernel
theorem dX12_isWithin_5 : decode cX12_isWithin 5 = .ok (.iload_n 1, 1) := by decide +kernel
theorem dX12_isWithin_6 : decode cX12_isWithin 6 = .ok (.imul, 1) := by decide +kernel
theorem dX12_isWithin_7 : decode cX12_isWithin 7 = .ok (.istore 4, 2) := by decide +kernel
theorem dX12_isWithin_9 : decode cX12_isWithin 9 = .ok (.iload 4, 2) := by decide +kernel
theorem dX12_isWithin_11 : decode cX12_isWithin 11 = .ok (.sipush 300, 3) := by decide +kernel
theorem dX12_isWithin_14 : decode cX12_isWithin 14 = .ok (.iload_n 1, 1) := by decide +kernel
theorem dX12_isWithin_15 : decode cX12_isWithin 15 = .ok (.imul, 1) := by decide +kernel
theorem dX12_isWithin_16 : decode cX12_isWithin 16 = .ok (.aload_n 0, 1) := by decide +kernel
theorem dX12_isWithin_17 : decode cX12_isWithin 17 = .ok (.getfield 50, 3) := by decide +kernel
theorem dX12_isWithin_20 : decode cX12_isWithin 20 = .ok (.iload_n 1, 1) := by decide +kernel
theorem dX12_isWithin_21 : decode cX12_isWithin 21 = .ok (.iaload, 1) := by decide +kernel
theorem dX12_isWithin_22 : decode cX12_isWithin 22 = .ok (.iadd, 1) := by decide +kernel
theorem dX12_isWithin_23 : decode cX12_isWithin 23 = .ok (.if_icmp .ge 69, 3) := by decide +kernel
theorem dX12_isWithin_26 : decode cX12_isWithin 26 = .ok (.iload_n 3, 1) := by decide +kernel
theorem dX12_isWithin_27 : decode cX12_isWithin 27 = .ok (.ifCond .eq 57, 3) := by decide +kernel
theorem dX12_isWithin_30 : decode cX12_isWithin 30 = .ok (.aload_n 0, 1) := by decide +kernel
theorem dX12_isWithin_31 : decode cX12_isWithin 31 = .ok (.iload_n 1, 1) := by decide +kernel
theorem dX12_isWithin_32 : decode cX12_isWithin 32 = .ok (.iload_n 2, 1) := by decide +kernel
theorem dX12_isWithin_33 : decode cX12_isWithin 33 = .ok (.aload_n 0, 1) := by decide +kernel
theorem dX12_isWithin_34 : decode cX12_isWithin 34 = .ok (.getfield 57, 3) := by decide +kernel
theorem dX12_isWithin_37 : decode cX12_isWithin 37 = .ok (.iload 4, 2) := by decide +kernel
theorem dX12_isWithin_39 : decode cX12_isWithin 39 = .ok (.iaload, 1) := by decide +kernel
theorem dX12_isWithin_40 : decode cX12_isWithin 40 = .ok (.iconst 1, 1) := by decide +kernel
theorem dX12_isWithin_41 : decode cX12_isWithin 41 = .ok (.invokevirtual 190, 3) := by decide +kernel
theorem dX12_isWithin_44 : decode cX12_isWithin 44 = .ok (.aload_n 0, 1) := by decide +kernel
theorem dX12_isWithin_45 : decode cX12_isWithin 45 = .ok (.getfield 60, 3) := by decide +kernel
theorem dX12_isWithin_48 : decode cX12_isWithin 48 = .ok (.iload 4, 2) := by decide +kernel
theorem dX12_isWithin_50 : decode cX12_isWithin 50 = .ok (.laload, 1) := by decide +kernel
theorem dX12_isWithin_51 : decode cX12_isWithin 51 = .ok (.lcmp, 1) := by decide +kernel
theorem dX12_isWithin_52 : decode cX12_isWithin 52 = .ok (.ifCond .gt 32, 3) := by decide +kernel
theorem dX12_isWithin_55 : decode cX12_isWithin 55 = .ok (.aload_n 0, 1) := by decide +kernel
theorem dX12_isWithin_56 : decode cX12_isWithin 56 = .ok (.iload_n 1, 1) := by decide +kernel
theorem dX12_isWithin_57 : decode cX12_isWithin 57 = .ok (.iload_n 2, 1) := by decide +kernel
theorem dX12_isWithin_58 : decode cX12_isWithin 58 = .ok (.aload_n 0, 1) := by decide +kernel
theorem dX12_isWithin_59 : decode cX12_isWithin 59 = .ok (.getfield 57, 3) := by decide +kernel
theorem dX12_isWithin_62 : decode cX12_isWithin 62 = .ok (.iload 4, 2) := by decide +kernel
theorem dX12_isWithin_64 : decode cX12_isWithin 64 = .ok (.iaload, 1) := by decide +kernel
theorem dX12_isWithin_65 : decode cX12_isWithin 65 = .ok (.iconst 2, 1) := by decide +kernel
theorem dX12_isWithin_66 : decode cX12_isWithin 66 = .ok (.invokevirtual 190, 3) := by decide +kernel
theorem dX12_isWithin_69 : decode cX12_isWithin 69 = .ok (.aload_n 0, 1) := by decide +kernel
theorem dX12_isWithin_70 : decode cX12_isWithin 70 = .ok (.getfield 60, 3) := by decide +kernel
theorem dX12_isWithin_73 : decode cX12_isWithin 73 = .ok (.iload 4, 2) := by decide +kernel
theorem dX12_isWithin_75 : decode cX12_isWithin 75 = .ok (.laload, 1) := by decide +kernel
theorem dX12_isWithin_76 : decode cX12_isWithin 76 = .ok (.lcmp, 1) := by decide +kernel
theorem dX12_isWithin_77 : decode cX12_isWithin 77 = .ok (.ifCond .lt 7, 3) := by decide +kernel
theorem dX12_isWithin_80 : decode cX12_isWithin 80 = .ok (.iconst 1, 1) := by decide +kernel
theorem dX12_isWithin_81 : decode cX12_isWithin 81 = .ok (.goto 4, 3) := by decide +kernel
theorem dX12_isWithin_84 : decode cX12_isWithin 84 = .ok (.iconst 0, 1) := by decide +kernel
theorem dX12_isWithin_85 : decode cX12_isWithin 85 = .ok (.istore_n 3, 1) := by decide +kernel
theorem dX12_isWithin_86 : decode cX12_isWithin 86 = .ok (.iinc 4 1, 3) := by decide +kernel
theorem dX12_isWithin_89 : decode cX12_isWithin 89 = .ok (.goto (-80), 3) := by decide +kernel
theorem dX12_isWithin_92 : decode cX12_isWithin 92 = .ok (.iload_n 3, 1) := by decide +kernel
theorem dX12_isWithin_93 : decode cX12_isWithin 93 = .ok (.ireturn, 1) := by decide +kernel
theorem dX12_audit_0 : decode cX12_audit 0 = .ok (.iload_n 1, 1) := by decide +kernel
theorem dX12_audit_1 : decode cX12_audit 1 = .ok (.invokestatic 146, 3) := by decide +kernel
theorem dX12_audit_4 : decode cX12_audit 4 = .ok (.ifCond .eq 12, 3) := by decide +kernel
theorem dX12_audit_7 : decode cX12_audit 7 = .ok (.aload_n 0, 1) := by decide +kernel
theorem dX12_audit_8 : decode cX12_audit 8 = .ok (.getfield 53, 3) := by decide +kernel
theorem dX12_audit_11 : decode cX12_audit 11 = .ok (.iload_n 1, 1) := by decide +kernel
theorem dX12_audit_12 : decode cX12_audit 12 = .ok (.baload, 1) := by decide +kernel
theorem dX12_audit_13 : decode cX12_audit 13 = .ok (.ifCond .eq 5, 3) := by decide +kernel
theorem dX12_audit_16 : decode cX12_audit 16 = .ok (.iconst (-1), 1) := by decide +kernel
theorem dX12_audit_17 : decode cX12_audit 17 = .ok (.ireturn, 1) := by decide +kernel
theorem dX12_audit_18 : decode cX12_audit 18 = .ok (.iconst 0, 1) := by decide +kernel
theorem dX12_audit_19 : decode cX12_audit 19 = .ok (.istore_n 2, 1) := by decide +kernel
theorem dX12_audit_20 : decode cX12_audit 20 = .ok (.iload_n 2, 1) := by decide +kernel
theorem dX12_audit_21 : decode cX12_audit 21 = .ok (.iconst 4, 1) := by decide +kernel
theorem dX12_audit_22 : decode cX12_audit 22 = .ok (.if_icmp .ge 22, 3) := by decide +kernel
theorem dX12_audit_25 : decode cX12_audit 25 = .ok (.aload_n 0, 1) := by decide +kernel
theorem dX12_audit_26 : decode cX12_audit 26 = .ok (.iload_n 1, 1) := by decide +kernel
theorem dX12_audit_27 : decode cX12_audit 27 = .ok (.iload_n 2, 1) := by decide +kernel
theorem dX12_audit_28 : decode cX12_audit 28 = .ok (.invokevirtual 207, 3) := by decide +kernel
theorem dX12_audit_31 : decode cX12_audit 31 = .ok (.ifCond .ne 7, 3) := by decide +kernel
theorem dX12_audit_34 : decode cX12_audit 34 = .ok (.iconst 1, 1) := by decide +kernel
theorem dX12_audit_35 : decode cX12_audit 35 = .ok (.iload_n 2, 1) := by decide +kernel
theorem dX12_audit_36 : decode cX12_audit 36 = .ok (.iadd, 1) := by decide +kernel
theorem dX12_audit_37 : decode cX12_audit 37 = .ok (.ireturn, 1) := by decide +kernel
theorem dX12_audit_38 : decode cX12_audit 38 = .ok (.iinc 2 1, 3) := by decide +kernel
theorem dX12_audit_41 : decode cX12_audit 41 = .ok (.goto (-21), 3) := by decide +kernel
theorem dX12_audit_44 : decode cX12_audit 44 = .ok (.lconst 0, 1) := by decide +kernel
theorem dX12_audit_45 : decode cX12_audit 45 = .ok (.lstore_n 2, 1) := by decide +kernel
theorem dX12_audit_46 : decode cX12_audit 46 = .ok (.iconst 1, 1) := by decide +kernel
theorem dX12_audit_47 : decode cX12_audit 47 = .ok (.istore 4, 2) := by decide +kernel
theorem dX12_audit_49 : decode cX12_audit 49 = .ok (.sipush 300, 3) := by decide +kernel
theorem dX12_audit_52 : decode cX12_audit 52 = .ok (.iload_n 1, 1) := by decide +kernel
theorem dX12_audit_53 : decode cX12_audit 53 = .ok (.imul, 1) := by decide +kernel
theorem dX12_audit_54 : decode cX12_audit 54 = .ok (.istore 5, 2) := by decide +kernel
theorem dX12_audit_56 : decode cX12_audit 56 = .ok (.iload 5, 2) := by decide +kernel
theorem dX12_audit_58 : decode cX12_audit 58 = .ok (.sipush 300, 3) := by decide +kernel
theorem dX12_audit_61 : decode cX12_audit 61 = .ok (.iload_n 1, 1) := by decide +kernel
theorem dX12_audit_62 : decode cX12_audit 62 = .ok (.imul, 1) := by decide +kernel
theorem dX12_audit_63 : decode cX12_audit 63 = .ok (.aload_n 0, 1) := by decide +kernel
theorem dX12_audit_64 : decode cX12_audit 64 = .ok (.getfield 50, 3) := by decide +kernel
theorem dX12_audit_67 : decode cX12_audit 67 = .ok (.iload_n 1, 1) := by decide +kernel
theorem dX12_audit_68 : decode cX12_audit 68 = .ok (.iaload, 1) := by decide +kernel
theorem dX12_audit_69 : decode cX12_audit 69 = .ok (.iadd, 1) := by decide +kernel
theorem dX12_audit_70 : decode cX12_audit 70 = .ok (.if_icmp .ge 59, 3) := by decide +kernel
theorem dX12_audit_73 : decode cX12_audit 73 = .ok (.lload_n 2, 1) := by decide +kernel
theorem dX12_audit_74 : decode cX12_audit 74 = .ok (.aload_n 0, 1) := by decide +kernel
theorem dX12_audit_75 : decode cX12_audit 75 = .ok (.getfield 60, 3) := by decide +kernel
theorem dX12_audit_78 : decode cX12_audit 78 = .ok (.iload 5, 2) := by decide +kernel
theorem dX12_audit_80 : decode cX12_audit 80 = .ok (.laload, 1) := by decide +kernel
theorem dX12_audit_81 : decode cX12_audit 81 = .ok (.ladd, 1) := by decide +kernel
theorem dX12_audit_82 : decode cX12_audit 82 = .ok (.lstore_n 2, 1) := by decide +kernel
theorem dX12_audit_83 : decode cX12_audit 83 = .ok (.iload 4, 2) := by decide +kernel
theorem dX12_audit_85 : decode cX12_audit 85 = .ok (.ifCond .eq 35, 3) := by decide +kernel
theorem dX12_audit_88 : decode cX12_audit 88 = .ok (.aload_n 0, 1) := by decide +kernel
theorem dX12_audit_89 : decode cX12_audit 89 = .ok (.iload_n 1, 1) := by decide +kernel
theorem dX12_audit_90 : decode cX12_audit 90 = .ok (.aload_n 0, 1) := by decide +kernel
theorem dX12_audit_91 : decode cX12_audit 91 = .ok (.getfield 57, 3) := by decide +kernel
theorem dX12_audit_94 : decode cX12_audit 94 = .ok (.iload 5, 2) := by decide +kernel
theorem dX12_audit_96 : decode cX12_audit 96 = .ok (.iaload, 1) := by decide +kernel
theorem dX12_audit_97 : decode cX12_audit 97 = .ok (.invokevirtual 114, 3) := by decide +kernel
theorem dX12_audit_100 : decode cX12_audit 100 = .ok (.aload_n 0, 1) := by decide +kernel
theorem dX12_audit_101 : decode cX12_audit 101 = .ok (.iload_n 1, 1) := by decide +kernel
theorem dX12_audit_102 : decode cX12_audit 102 = .ok (.aload_n 0, 1) := by decide +kernel
theorem dX12_audit_103 : decode cX12_audit 103 = .ok (.getfield 57, 3) := by decide +kernel
theorem dX12_audit_106 : decode cX12_audit 106 = .ok (.iload 5, 2) := by decide +kernel
theorem dX12_audit_108 : decode cX12_audit 108 = .ok (.iaload, 1) := by decide +kernel
theorem dX12_audit_109 : decode cX12_audit 109 = .ok (.invokevirtual 187, 3) := by decide +kernel
theorem dX12_audit_112 : decode cX12_audit 112 = .ok (.lcmp, 1) := by decide +kernel
theorem dX12_audit_113 : decode cX12_audit 113 = .ok (.ifCond .gt 7, 3) := by decide +kernel
theorem dX12_audit_116 : decode cX12_audit 116 = .ok (.iconst 1, 1) := by decide +kernel
theorem dX12_audit_117 : decode cX12_audit 117 = .ok (.goto 4, 3) := by decide +kernel
theorem dX12_audit_120 : decode cX12_audit 120 = .ok (.iconst 0, 1) := by decide +kernel
theorem dX12_audit_121 : decode cX12_audit 121 = .ok (.istore 4, 2) := by decide +kernel
theorem dX12_audit_123 : decode cX12_audit 123 = .ok (.iinc 5 1, 3) := by decide +kernel
theorem dX12_audit_126 : decode cX12_audit 126 = .ok (.goto (-70), 3) := by decide +kernel
theorem dX12_audit_129 : decode cX12_audit 129 = .ok (.iload 4, 2) := by decide +kernel
theorem dX12_audit_131 : decode cX12_audit 131 = .ok (.ifCond .ne 5, 3) := by decide +kernel
theorem dX12_audit_134 : decode cX12_audit 134 = .ok (.iconst 5, 1) := by decide +kernel
theorem dX12_audit_135 : decode cX12_audit 135 = .ok (.ireturn, 1) := by decide +kernel
theorem dX12_audit_136 : decode cX12_audit 136 = .ok (.aload_n 0, 1) := by decide +kernel
theorem dX12_audit_137 : decode cX12_audit 137 = .ok (.getfield 97, 3) := by decide +kernel
theorem dX12_audit_140 : decode cX12_audit 140 = .ok (.i2l, 1) := by decide +kernel
theorem dX12_audit_141 : decode cX12_audit 141 = .ok (.lconst 1, 1) := by decide +kernel
theorem dX12_audit_142 : decode cX12_audit 142 = .ok (.ladd, 1) := by decide +kernel
theorem dX12_audit_143 : decode cX12_audit 143 = .ok (.aload_n 0, 1) := by decide +kernel
theorem dX12_audit_144 : decode cX12_audit 144 = .ok (.getfield 29, 3) := by decide +kernel
theorem dX12_audit_147 : decode cX12_audit 147 = .ok (.iload_n 1, 1) := by decide +kernel
theorem dX12_audit_148 : decode cX12_audit 148 = .ok (.laload, 1) := by decide +kernel
theorem dX12_audit_149 : decode cX12_audit 149 = .ok (.lmul, 1) := by decide +kernel
theorem dX12_audit_150 : decode cX12_audit 150 = .ok (.aload_n 0, 1) := by decide +kernel
theorem dX12_audit_151 : decode cX12_audit 151 = .ok (.getfield 16, 3) := by decide +kernel
theorem dX12_audit_154 : decode cX12_audit 154 = .ok (.iload_n 1, 1) := by decide +kernel
theorem dX12_audit_155 : decode cX12_audit 155 = .ok (.laload, 1) := by decide +kernel
theorem dX12_audit_156 : decode cX12_audit 156 = .ok (.lcmp, 1) := by decide +kernel
theorem dX12_audit_157 : decode cX12_audit 157 = .ok (.ifCond .le 8, 3) := by decide +kernel
theorem dX12_audit_160 : decode cX12_audit 160 = .ok (.bipush 6, 2) := by decide +kernel
theorem dX12_audit_162 : decode cX12_audit 162 = .ok (.goto 20, 3) := by decide +kernel
theorem dX12_audit_165 : decode cX12_audit 165 = .ok (.lload_n 2, 1) := by decide +kernel
theorem dX12_audit_166 : decode cX12_audit 166 = .ok (.aload_n 0, 1) := by decide +kernel
theorem dX12_audit_167 : decode cX12_audit 167 = .ok (.getfield 16, 3) := by decide +kernel
theorem dX12_audit_170 : decode cX12_audit 170 = .ok (.iload_n 1, 1) := by decide +kernel
theorem dX12_audit_171 : decode cX12_audit 171 = .ok (.laload, 1) := by decide +kernel
theorem dX12_audit_172 : decode cX12_audit 172 = .ok (.lcmp, 1) := by decide +kernel
theorem dX12_audit_173 : decode cX12_audit 173 = .ok (.ifCond .eq 8, 3) := by decide +kernel
theorem dX12_audit_176 : decode cX12_audit 176 = .ok (.bipush 7, 2) := by decide +kernel
theorem dX12_audit_178 : decode cX12_audit 178 = .ok (.goto 4, 3) := by decide +kernel
theorem dX12_audit_181 : decode cX12_audit 181 = .ok (.iconst 0, 1) := by decide +kernel
theorem dX12_audit_182 : decode cX12_audit 182 = .ok (.ireturn, 1) := by decide +kernel
