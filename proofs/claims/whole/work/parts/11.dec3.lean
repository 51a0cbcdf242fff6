theorem dX11_waysOfAtMost_6 : decode cX11_waysOfAtMost 6 = .ok (.iload 6, 2) := by decide +kernel
theorem dX11_waysOfAtMost_8 : decode cX11_waysOfAtMost 8 = .ok (.iload_n 0, 1) := by decide +kernel
theorem dX11_waysOfAtMost_9 : decode cX11_waysOfAtMost 9 = .ok (.if_icmp .gt 31, 3) := by decide +kernel
theorem dX11_waysOfAtMost_12 : decode cX11_waysOfAtMost 12 = .ok (.lload 4, 2) := by decide +kernel
theorem dX11_waysOfAtMost_14 : decode cX11_waysOfAtMost 14 = .ok (.iload_n 3, 1) := by decide +kernel
theorem dX11_waysOfAtMost_15 : decode cX11_waysOfAtMost 15 = .ok (.iload 6, 2) := by decide +kernel
theorem dX11_waysOfAtMost_17 : decode cX11_waysOfAtMost 17 = .ok (.invokestatic 531, 3) := by decide +kernel
theorem dX11_waysOfAtMost_20 : decode cX11_waysOfAtMost 20 = .ok (.iload_n 1, 1) := by decide +kernel
theorem dX11_waysOfAtMost_21 : decode cX11_waysOfAtMost 21 = .ok (.iload_n 3, 1) := by decide +kernel
theorem dX11_waysOfAtMost_22 : decode cX11_waysOfAtMost 22 = .ok (.isub, 1) := by decide +kernel
theorem dX11_waysOfAtMost_23 : decode cX11_waysOfAtMost 23 = .ok (.iload_n 2, 1) := by decide +kernel
theorem dX11_waysOfAtMost_24 : decode cX11_waysOfAtMost 24 = .ok (.iload 6, 2) := by decide +kernel
theorem dX11_waysOfAtMost_26 : decode cX11_waysOfAtMost 26 = .ok (.isub, 1) := by decide +kernel
theorem dX11_waysOfAtMost_27 : decode cX11_waysOfAtMost 27 = .ok (.invokestatic 531, 3) := by decide +kernel
theorem dX11_waysOfAtMost_30 : decode cX11_waysOfAtMost 30 = .ok (.lmul, 1) := by decide +kernel
theorem dX11_waysOfAtMost_31 : decode cX11_waysOfAtMost 31 = .ok (.ladd, 1) := by decide +kernel
theorem dX11_waysOfAtMost_32 : decode cX11_waysOfAtMost 32 = .ok (.lstore 4, 2) := by decide +kernel
theorem dX11_waysOfAtMost_34 : decode cX11_waysOfAtMost 34 = .ok (.iinc 6 1, 3) := by decide +kernel
theorem dX11_waysOfAtMost_37 : decode cX11_waysOfAtMost 37 = .ok (.goto (-31), 3) := by decide +kernel
theorem dX11_waysOfAtMost_40 : decode cX11_waysOfAtMost 40 = .ok (.lload 4, 2) := by decide +kernel
theorem dX11_waysOfAtMost_42 : decode cX11_waysOfAtMost 42 = .ok (.lreturn, 1) := by decide +kernel
theorem dX11_ways_0 : decode cX11_ways 0 = .ok (.iload_n 1, 1) := by decide +kernel
theorem dX11_ways_1 : decode cX11_ways 1 = .ok (.ifCond .lt 8, 3) := by decide +kernel
theorem dX11_ways_4 : decode cX11_ways 4 = .ok (.iload_n 1, 1) := by decide +kernel
theorem dX11_ways_5 : decode cX11_ways 5 = .ok (.iload_n 0, 1) := by decide +kernel
theorem dX11_ways_6 : decode cX11_ways 6 = .ok (.if_icmp .le 5, 3) := by decide +kernel
theorem dX11_ways_9 : decode cX11_ways 9 = .ok (.lconst 0, 1) := by decide +kernel
theorem dX11_ways_10 : decode cX11_ways 10 = .ok (.lreturn, 1) := by decide +kernel
theorem dX11_ways_11 : decode cX11_ways 11 = .ok (.lconst 1, 1) := by decide +kernel
theorem dX11_ways_12 : decode cX11_ways 12 = .ok (.lstore_n 2, 1) := by decide +kernel
theorem dX11_ways_13 : decode cX11_ways 13 = .ok (.iconst 1, 1) := by decide +kernel
theorem dX11_ways_14 : decode cX11_ways 14 = .ok (.istore 4, 2) := by decide +kernel
theorem dX11_ways_16 : decode cX11_ways 16 = .ok (.iload 4, 2) := by decide +kernel
theorem dX11_ways_18 : decode cX11_ways 18 = .ok (.iload_n 1, 1) := by decide +kernel
theorem dX11_ways_19 : decode cX11_ways 19 = .ok (.if_icmp .gt 23, 3) := by decide +kernel
theorem dX11_ways_22 : decode cX11_ways 22 = .ok (.lload_n 2, 1) := by decide +kernel
theorem dX11_ways_23 : decode cX11_ways 23 = .ok (.iload_n 0, 1) := by decide +kernel
theorem dX11_ways_24 : decode cX11_ways 24 = .ok (.iload_n 1, 1) := by decide +kernel
theorem dX11_ways_25 : decode cX11_ways 25 = .ok (.isub, 1) := by decide +kernel
theorem dX11_ways_26 : decode cX11_ways 26 = .ok (.iload 4, 2) := by decide +kernel
theorem dX11_ways_28 : decode cX11_ways 28 = .ok (.iadd, 1) := by decide +kernel
theorem dX11_ways_29 : decode cX11_ways 29 = .ok (.i2l, 1) := by decide +kernel
theorem dX11_ways_30 : decode cX11_ways 30 = .ok (.lmul, 1) := by decide +kernel
theorem dX11_ways_31 : decode cX11_ways 31 = .ok (.iload 4, 2) := by decide +kernel
theorem dX11_ways_33 : decode cX11_ways 33 = .ok (.i2l, 1) := by decide +kernel
theorem dX11_ways_34 : decode cX11_ways 34 = .ok (.ldiv, 1) := by decide +kernel
theorem dX11_ways_35 : decode cX11_ways 35 = .ok (.lstore_n 2, 1) := by decide +kernel
theorem dX11_ways_36 : decode cX11_ways 36 = .ok (.iinc 4 1, 3) := by decide +kernel
theorem dX11_ways_39 : decode cX11_ways 39 = .ok (.goto (-23), 3) := by decide +kernel
theorem dX11_ways_42 : decode cX11_ways 42 = .ok (.lload_n 2, 1) := by decide +kernel
theorem dX11_ways_43 : decode cX11_ways 43 = .ok (.lreturn, 1) := by decide +kernel
theorem dX12_init_0 : decode cX12_init 0 = .ok (.aload_n 0, 1) := by decide +kernel
theorem dX12_init_1 : decode cX12_init 1 = .ok (.invokespecial 1, 3) := by decide +kernel
theorem dX12_init_4 : decode cX12_init 4 = .ok (.aload_n 0, 1) := by decide +kernel
theorem dX12_init_5 : decode cX12_init 5 = .ok (.bipush 60, 2) := by decide +kernel
theorem dX12_init_7 : decode cX12_init 7 = .ok (.newarray .int, 2) := by decide +kernel
theorem dX12_init_9 : decode cX12_init 9 = .ok (.putfield 7, 3) := by decide +kernel
theorem dX12_init_12 : decode cX12_init 12 = .ok (.aload_n 0, 1) := by decide +kernel
theorem dX12_init_13 : decode cX12_init 13 = .ok (.sipush 150, 3) := by decide +kernel
theorem dX12_init_16 : decode cX12_init 16 = .ok (.newarray .int, 2) := by decide +kernel
theorem dX12_init_18 : decode cX12_init 18 = .ok (.putfield 13, 3) := by decide +kernel
theorem dX12_init_21 : decode cX12_init 21 = .ok (.aload_n 0, 1) := by decide +kernel
theorem dX12_init_22 : decode cX12_init 22 = .ok (.sipush 150, 3) := by decide +kernel
theorem dX12_init_25 : decode cX12_init 25 = .ok (.newarray .int, 2) := by decide +kernel
theorem dX12_init_27 : decode cX12_init 27 = .ok (.putfield 16, 3) := by decide +kernel
theorem dX12_init_30 : decode cX12_init 30 = .ok (.aload_n 0, 1) := by decide +kernel
theorem dX12_init_31 : decode cX12_init 31 = .ok (.sipush 150, 3) := by decide +kernel
theorem dX12_init_34 : decode cX12_init 34 = .ok (.newarray .int, 2) := by decide +kernel
theorem dX12_init_36 : decode cX12_init 36 = .ok (.putfield 19, 3) := by decide +kernel
theorem dX12_init_39 : decode cX12_init 39 = .ok (.aload_n 0, 1) := by decide +kernel
theorem dX12_init_40 : decode cX12_init 40 = .ok (.sipush 150, 3) := by decide +kernel
theorem dX12_init_43 : decode cX12_init 43 = .ok (.newarray .int, 2) := by decide +kernel
theorem dX12_init_45 : decode cX12_init 45 = .ok (.putfield 22, 3) := by decide +kernel
theorem dX12_init_48 : decode cX12_init 48 = .ok (.aload_n 0, 1) := by decide +kernel
theorem dX12_init_49 : decode cX12_init 49 = .ok (.sipush 150, 3) := by decide +kernel
theorem dX12_init_52 : decode cX12_init 52 = .ok (.newarray .int, 2) := by decide +kernel
theorem dX12_init_54 : decode cX12_init 54 = .ok (.putfield 25, 3) := by decide +kernel
theorem dX12_init_57 : decode cX12_init 57 = .ok (.aload_n 0, 1) := by decide +kernel
theorem dX12_init_58 : decode cX12_init 58 = .ok (.sipush 150, 3) := by decide +kernel
theorem dX12_init_61 : decode cX12_init 61 = .ok (.newarray .int, 2) := by decide +kernel
theorem dX12_init_63 : decode cX12_init 63 = .ok (.putfield 28, 3) := by decide +kernel
theorem dX12_init_66 : decode cX12_init 66 = .ok (.aload_n 0, 1) := by decide +kernel
theorem dX12_init_67 : decode cX12_init 67 = .ok (.sipush 600, 3) := by decide +kernel
theorem dX12_init_70 : decode cX12_init 70 = .ok (.newarray .int, 2) := by decide +kernel
theorem dX12_init_72 : decode cX12_init 72 = .ok (.putfield 31, 3) := by decide +kernel
theorem dX12_init_75 : decode cX12_init 75 = .ok (.aload_n 0, 1) := by decide +kernel
theorem dX12_init_76 : decode cX12_init 76 = .ok (.iconst 4, 1) := by decide +kernel
theorem dX12_init_77 : decode cX12_init 77 = .ok (.newarray .int, 2) := by decide +kernel
theorem dX12_init_79 : decode cX12_init 79 = .ok (.putfield 34, 3) := by decide +kernel
theorem dX12_init_82 : decode cX12_init 82 = .ok (.aload_n 0, 1) := by decide +kernel
theorem dX12_init_83 : decode cX12_init 83 = .ok (.sipush 200, 3) := by decide +kernel
theorem dX12_init_86 : decode cX12_init 86 = .ok (.newarray .int, 2) := by decide +kernel
theorem dX12_init_88 : decode cX12_init 88 = .ok (.putfield 37, 3) := by decide +kernel
theorem dX12_init_91 : decode cX12_init 91 = .ok (.aload_n 0, 1) := by decide +kernel
theorem dX12_init_92 : decode cX12_init 92 = .ok (.sipush 200, 3) := by decide +kernel
theorem dX12_init_95 : decode cX12_init 95 = .ok (.newarray .int, 2) := by decide +kernel
theorem dX12_init_97 : decode cX12_init 97 = .ok (.putfield 40, 3) := by decide +kernel
theorem dX12_init_100 : decode cX12_init 100 = .ok (.aload_n 0, 1) := by decide +kernel
theorem dX12_init_101 : decode cX12_init 101 = .ok (.sipush 200, 3) := by decide +kernel
theorem dX12_init_104 : decode cX12_init 104 = .ok (.newarray .int, 2) := by decide +kernel
theorem dX12_init_106 : decode cX12_init 106 = .ok (.putfield 43, 3) := by decide +kernel
theorem dX12_init_109 : decode cX12_init 109 = .ok (.aload_n 0, 1) := by decide +kernel
theorem dX12_init_110 : decode cX12_init 110 = .ok (.sipush 300, 3) := by decide +kernel
theorem dX12_init_113 : decode cX12_init 113 = .ok (.newarray .int, 2) := by decide +kernel
theorem dX12_init_115 : decode cX12_init 115 = .ok (.putfield 46, 3) := by decide +kernel
theorem dX12_init_118 : decode cX12_init 118 = .ok (.aload_n 0, 1) := by decide +kernel
theorem dX12_init_119 : decode cX12_init 119 = .ok (.sipush 300, 3) := by decide +kernel
theorem dX12_init_122 : decode cX12_init 122 = .ok (.newarray .int, 2) := by decide +kernel
theorem dX12_init_124 : decode cX12_init 124 = .ok (.putfield 49, 3) := by decide +kernel
theorem dX12_init_127 : decode cX12_init 127 = .ok (.aload_n 0, 1) := by decide +kernel
theorem dX12_init_128 : decode cX12_init 128 = .ok (.sipush 300, 3) := by decide +kernel
theorem dX12_init_131 : decode cX12_init 131 = .ok (.newarray .int, 2) := by decide +kernel
theorem dX12_init_133 : decode cX12_init 133 = .ok (.putfield 52, 3) := by decide +kernel
theorem dX12_init_136 : decode cX12_init 136 = .ok (.aload_n 0, 1) := by decide +kernel
theorem dX12_init_137 : decode cX12_init 137 = .ok (.sipush 300, 3) := by decide +kernel
theorem dX12_init_140 : decode cX12_init 140 = .ok (.newarray .boolean, 2) := by decide +kernel
theorem dX12_init_142 : decode cX12_init 142 = .ok (.putfield 55, 3) := by decide +kernel
theorem dX12_init_145 : decode cX12_init 145 = .ok (.aload_n 0, 1) := by decide +kernel
theorem dX12_init_146 : decode cX12_init 146 = .ok (.sipush 150, 3) := by decide +kernel
theorem dX12_init_149 : decode cX12_init 149 = .ok (.newarray .int, 2) := by decide +kernel
theorem dX12_init_151 : decode cX12_init 151 = .ok (.putfield 59, 3) := by decide +kernel
theorem dX12_init_154 : decode cX12_init 154 = .ok (.aload_n 0, 1) := by decide +kernel
theorem dX12_init_155 : decode cX12_init 155 = .ok (.sipush 6000, 3) := by decide +kernel
theorem dX12_init_158 : decode cX12_init 158 = .ok (.newarray .short, 2) := by decide +kernel
theorem dX12_init_160 : decode cX12_init 160 = .ok (.putfield 62, 3) := by decide +kernel
theorem dX12_init_163 : decode cX12_init 163 = .ok (.aload_n 0, 1) := by decide +kernel
theorem dX12_init_164 : decode cX12_init 164 = .ok (.sipush 160, 3) := by decide +kernel
theorem dX12_init_167 : decode cX12_init 167 = .ok (.newarray .byte, 2) := by decide +kernel
theorem dX12_init_169 : decode cX12_init 169 = .ok (.putfield 66, 3) := by decide +kernel
theorem dX12_init_172 : decode cX12_init 172 = .ok (.aload_n 0, 1) := by decide +kernel
theorem dX12_init_173 : decode cX12_init 173 = .ok (.bipush 21, 2) := by decide +kernel
theorem dX12_init_175 : decode cX12_init 175 = .ok (.newarray .int, 2) := by decide +kernel
theorem dX12_init_177 : decode cX12_init 177 = .ok (.putfield 70, 3) := by decide +kernel
theorem dX12_init_180 : decode cX12_init 180 = .ok (.aload_n 0, 1) := by decide +kernel
theorem dX12_init_181 : decode cX12_init 181 = .ok (.bipush 21, 2) := by decide +kernel
theorem dX12_init_183 : decode cX12_init 183 = .ok (.newarray .int, 2) := by decide +kernel
theorem dX12_init_185 : decode cX12_init 185 = .ok (.putfield 73, 3) := by decide +kernel
theorem dX12_init_188 : decode cX12_init 188 = .ok (.aload_n 0, 1) := by decide +kernel
theorem dX12_init_189 : decode cX12_init 189 = .ok (.bipush 21, 2) := by decide +kernel
theorem dX12_init_191 : decode cX12_init 191 = .ok (.newarray .int, 2) := by decide +kernel
theorem dX12_init_193 : decode cX12_init 193 = .ok (.putfield 76, 3) := by decide +kernel
theorem dX12_init_196 : decode cX12_init 196 = .ok (.aload_n 0, 1) := by decide +kernel
theorem dX12_init_197 : decode cX12_init 197 = .ok (.bipush 21, 2) := by decide +kernel
theorem dX12_init_199 : decode cX12_init 199 = .ok (.newarray .int, 2) := by decide +kernel
theorem dX12_init_201 : decode cX12_init 201 = .ok (.putfield 79, 3) := by decide +kernel
theorem dX12_init_204 : decode cX12_init 204 = .ok (.aload_n 0, 1) := by decide +kernel
theorem dX12_init_205 : decode cX12_init 205 = .ok (.sipush 1701, 3) := by decide +kernel
theorem dX12_init_208 : decode cX12_init 208 = .ok (.newarray .byte, 2) := by decide +kernel
theorem dX12_init_210 : decode cX12_init 210 = .ok (.putfield 82, 3) := by decide +kernel
theorem dX12_init_213 : decode cX12_init 213 = .ok (.aload_n 0, 1) := by decide +kernel
theorem dX12_init_214 : decode cX12_init 214 = .ok (.sipush 1701, 3) := by decide +kernel
theorem dX12_init_217 : decode cX12_init 217 = .ok (.newarray .short, 2) := by decide +kernel
theorem dX12_init_219 : decode cX12_init 219 = .ok (.putfield 85, 3) := by decide +kernel
theorem dX12_init_222 : decode cX12_init 222 = .ok (.aload_n 0, 1) := by decide +kernel
theorem dX12_init_223 : decode cX12_init 223 = .ok (.sipush 1701, 3) := by decide +kernel
theorem dX12_init_226 : decode cX12_init 226 = .ok (.newarray .short, 2) := by decide +kernel
theorem dX12_init_228 : decode cX12_init 228 = .ok (.putfield 88, 3) := by decide +kernel
theorem dX12_init_231 : decode cX12_init 231 = .ok (.aload_n 0, 1) := by decide +kernel
theorem dX12_init_232 : decode cX12_init 232 = .ok (.sipush 3570, 3) := by decide +kernel
theorem dX12_init_235 : decode cX12_init 235 = .ok (.newarray .byte, 2) := by decide +kernel
theorem dX12_init_237 : decode cX12_init 237 = .ok (.putfield 91, 3) := by decide +kernel
theorem dX12_init_240 : decode cX12_init 240 = .ok (.aload_n 0, 1) := by decide +kernel
theorem dX12_init_241 : decode cX12_init 241 = .ok (.sipush 3570, 3) := by decide +kernel
theorem dX12_init_244 : decode cX12_init 244 = .ok (.newarray .int, 2) := by decide +kernel
theorem dX12_init_246 : decode cX12_init 246 = .ok (.putfield 94, 3) := by decide +kernel
theorem dX12_init_249 : decode cX12_init 249 = .ok (.aload_n 0, 1) := by decide +kernel
theorem dX12_init_250 : decode cX12_init 250 = .ok (.bipush 11, 2) := by decide +kernel
theorem dX12_init_252 : decode cX12_init 252 = .ok (.newarray .int, 2) := by decide +kernel
theorem dX12_init_254 : decode cX12_init 254 = .ok (.putfield 97, 3) := by decide +kernel
theorem dX12_init_257 : decode cX12_init 257 = .ok (.aload_n 0, 1) := by decide +kernel
theorem dX12_init_258 : decode cX12_init 258 = .ok (.sipush 170, 3) := by decide +kernel
theorem dX12_init_261 : decode cX12_init 261 = .ok (.newarray .int, 2) := by decide +kernel
theorem dX12_init_263 : decode cX12_init 263 = .ok (.putfield 100, 3) := by decide +kernel
theorem dX12_init_266 : decode cX12_init 266 = .ok (.aload_n 0, 1) := by decide +kernel
theorem dX12_init_267 : decode cX12_init 267 = .ok (.sipush 150, 3) := by decide +kernel
theorem dX12_init_270 : decode cX12_init 270 = .ok (.newarray .byte, 2) := by decide +kernel
theorem dX12_init_272 : decode cX12_init 272 = .ok (.putfield 103, 3) := by decide +kernel
theorem dX12_init_275 : decode cX12_init 275 = .ok (.aload_n 0, 1) := by decide +kernel
theorem dX12_init_276 : decode cX12_init 276 = .ok (.sipush 1200, 3) := by decide +kernel
theorem dX12_init_279 : decode cX12_init 279 = .ok (.newarray .byte, 2) := by decide +kernel
theorem dX12_init_281 : decode cX12_init 281 = .ok (.putfield 106, 3) := by decide +kernel
theorem dX12_init_284 : decode cX12_init 284 = .ok (.aload_n 0, 1) := by decide +kernel
theorem dX12_init_285 : decode cX12_init 285 = .ok (.sipush 1200, 3) := by decide +kernel
theorem dX12_init_288 : decode cX12_init 288 = .ok (.newarray .byte, 2) := by decide +kernel
theorem dX12_init_290 : decode cX12_init 290 = .ok (.putfield 109, 3) := by decide +kernel
theorem dX12_init_293 : decode cX12_init 293 = .ok (.aload_n 0, 1) := by decide +kernel
theorem dX12_init_294 : decode cX12_init 294 = .ok (.sipush 1200, 3) := by decide +kernel
theorem dX12_init_297 : decode cX12_init 297 = .ok (.newarray .byte, 2) := by decide +kernel
theorem dX12_init_299 : decode cX12_init 299 = .ok (.putfield 112, 3) := by decide +kernel
theorem dX12_init_302 : decode cX12_init 302 = .ok (.aload_n 0, 1) := by decide +kernel
theorem dX12_init_303 : decode cX12_init 303 = .ok (.sipush 1200, 3) := by decide +kernel
theorem dX12_init_306 : decode cX12_init 306 = .ok (.newarray .byte, 2) := by decide +kernel
theorem dX12_init_308 : decode cX12_init 308 = .ok (.putfield 115, 3) := by decide +kernel
theorem dX12_init_311 : decode cX12_init 311 = .ok (.aload_n 0, 1) := by decide +kernel
theorem dX12_init_312 : decode cX12_init 312 = .ok (.bipush 6, 2) := by decide +kernel
theorem dX12_init_314 : decode cX12_init 314 = .ok (.newarray .int, 2) := by decide +kernel
theorem dX12_init_316 : decode cX12_init 316 = .ok (.putfield 118, 3) := by decide +kernel
theorem dX12_init_319 : decode cX12_init 319 = .ok (.aload_n 0, 1) := by decide +kernel
theorem dX12_init_320 : decode cX12_init 320 = .ok (.sipush 150, 3) := by decide +kernel
theorem dX12_init_323 : decode cX12_init 323 = .ok (.newarray .int, 2) := by decide +kernel
theorem dX12_init_325 : decode cX12_init 325 = .ok (.putfield 121, 3) := by decide +kernel
theorem dX12_init_328 : decode cX12_init 328 = .ok (.aload_n 0, 1) := by decide +kernel
theorem dX12_init_329 : decode cX12_init 329 = .ok (.sipush 1800, 3) := by decide +kernel
theorem dX12_init_332 : decode cX12_init 332 = .ok (.newarray .short, 2) := by decide +kernel
theorem dX12_init_334 : decode cX12_init 334 = .ok (.putfield 124, 3) := by decide +kernel
theorem dX12_init_337 : decode cX12_init 337 = .ok (.aload_n 0, 1) := by decide +kernel
theorem dX12_init_338 : decode cX12_init 338 = .ok (.sipush 1800, 3) := by decide +kernel
theorem dX12_init_341 : decode cX12_init 341 = .ok (.newarray .boolean, 2) := by decide +kernel
theorem dX12_init_343 : decode cX12_init 343 = .ok (.putfield 127, 3) := by decide +kernel
theorem dX12_init_346 : decode cX12_init 346 = .ok (.aload_n 0, 1) := by decide +kernel
theorem dX12_init_347 : decode cX12_init 347 = .ok (.sipush 150, 3) := by decide +kernel
theorem dX12_init_350 : decode cX12_init 350 = .ok (.newarray .byte, 2) := by decide +kernel
theorem dX12_init_352 : decode cX12_init 352 = .ok (.putfield 130, 3) := by decide +kernel
theorem dX12_init_355 : decode cX12_init 355 = .ok (.aload_n 0, 1) := by decide +kernel
theorem dX12_init_356 : decode cX12_init 356 = .ok (.sipush 1200, 3) := by decide +kernel
theorem dX12_init_359 : decode cX12_init 359 = .ok (.newarray .short, 2) := by decide +kernel
theorem dX12_init_361 : decode cX12_init 361 = .ok (.putfield 133, 3) := by decide +kernel
theorem dX12_init_364 : decode cX12_init 364 = .ok (.aload_n 0, 1) := by decide +kernel
theorem dX12_init_365 : decode cX12_init 365 = .ok (.sipush 150, 3) := by decide +kernel
theorem dX12_init_368 : decode cX12_init 368 = .ok (.newarray .boolean, 2) := by decide +kernel
theorem dX12_init_370 : decode cX12_init 370 = .ok (.putfield 136, 3) := by decide +kernel
theorem dX12_init_373 : decode cX12_init 373 = .ok (.aload_n 0, 1) := by decide +kernel
theorem dX12_init_374 : decode cX12_init 374 = .ok (.bipush 7, 2) := by decide +kernel
theorem dX12_init_376 : decode cX12_init 376 = .ok (.newarray .int, 2) := by decide +kernel
theorem dX12_init_378 : decode cX12_init 378 = .ok (.putfield 139, 3) := by decide +kernel
theorem dX12_init_381 : decode cX12_init 381 = .ok (.aload_n 0, 1) := by decide +kernel
theorem dX12_init_382 : decode cX12_init 382 = .ok (.bipush 7, 2) := by decide +kernel
theorem dX12_init_384 : decode cX12_init 384 = .ok (.newarray .int, 2) := by decide +kernel
theorem dX12_init_386 : decode cX12_init 386 = .ok (.putfield 142, 3) := by decide +kernel
theorem dX12_init_389 : decode cX12_init 389 = .ok (.aload_n 0, 1) := by decide +kernel
theorem dX12_init_390 : decode cX12_init 390 = .ok (.bipush 7, 2) := by decide +kernel
theorem dX12_init_392 : decode cX12_init 392 = .ok (.newarray .int, 2) := by decide +kernel
theorem dX12_init_394 : decode cX12_init 394 = .ok (.putfield 145, 3) := by decide +kernel
theorem dX12_init_397 : decode cX12_init 397 = .ok (.aload_n 0, 1) := by decide +kernel
theorem dX12_init_398 : decode cX12_init 398 = .ok (.bipush 7, 2) := by decide +kernel
theorem dX12_init_400 : decode cX12_init 400 = .ok (.newarray .int, 2) := by decide +kernel
theorem dX12_init_402 : decode cX12_init 402 = .ok (.putfield 148, 3) := by decide +kernel
theorem dX12_init_405 : decode cX12_init 405 = .ok (.aload_n 0, 1) := by decide +kernel
theorem dX12_init_406 : decode cX12_init 406 = .ok (.bipush 7, 2) := by decide +kernel
theorem dX12_init_408 : decode cX12_init 408 = .ok (.newarray .int, 2) := by decide +kernel
theorem dX12_init_410 : decode cX12_init 410 = .ok (.putfield 151, 3) := by decide +kernel
theorem dX12_init_413 : decode cX12_init 413 = .ok (.aload_n 0, 1) := by decide +kernel
theorem dX12_init_414 : decode cX12_init 414 = .ok (.bipush 7, 2) := by decide +kernel
theorem dX12_init_416 : decode cX12_init 416 = .ok (.newarray .int, 2) := by decide +kernel
theorem dX12_init_418 : decode cX12_init 418 = .ok (.putfield 154, 3) := by decide +kernel
theorem dX12_init_421 : decode cX12_init 421 = .ok (.aload_n 0, 1) := by decide +kernel
theorem dX12_init_422 : decode cX12_init 422 = .ok (.iconst (-1), 1) := by decide +kernel
theorem dX12_init_423 : decode cX12_init 423 = .ok (.putfield 157, 3) := by decide +kernel
theorem dX12_init_426 : decode cX12_init 426 = .ok (.aload_n 0, 1) := by decide +kernel
theorem dX12_init_427 : decode cX12_init 427 = .ok (.iconst (-1), 1) := by decide +kernel
theorem dX12_init_428 : decode cX12_init 428 = .ok (.putfield 161, 3) := by decide +kernel
theorem dX12_init_431 : decode cX12_init 431 = .ok (.aload_n 0, 1) := by decide +kernel
theorem dX12_init_432 : decode cX12_init 432 = .ok (.sipush 150, 3) := by decide +kernel
theorem dX12_init_435 : decode cX12_init 435 = .ok (.newarray .byte, 2) := by decide +kernel
theorem dX12_init_437 : decode cX12_init 437 = .ok (.putfield 164, 3) := by decide +kernel
theorem dX12_init_440 : decode cX12_init 440 = .ok (.aload_n 0, 1) := by decide +kernel
theorem dX12_init_441 : decode cX12_init 441 = .ok (.sipush 961, 3) := by decide +kernel
theorem dX12_init_444 : decode cX12_init 444 = .ok (.newarray .long, 2) := by decide +kernel
theorem dX12_init_446 : decode cX12_init 446 = .ok (.putfield 167, 3) := by decide +kernel
theorem dX12_init_449 : decode cX12_init 449 = .ok (.aload_n 0, 1) := by decide +kernel
theorem dX12_init_450 : decode cX12_init 450 = .ok (.sipush 150, 3) := by decide +kernel
theorem dX12_init_453 : decode cX12_init 453 = .ok (.newarray .int, 2) := by decide +kernel
theorem dX12_init_455 : decode cX12_init 455 = .ok (.putfield 171, 3) := by decide +kernel
theorem dX12_init_458 : decode cX12_init 458 = .ok (.aload_n 0, 1) := by decide +kernel
theorem dX12_init_459 : decode cX12_init 459 = .ok (.sipush 300, 3) := by decide +kernel
theorem dX12_init_462 : decode cX12_init 462 = .ok (.newarray .boolean, 2) := by decide +kernel
theorem dX12_init_464 : decode cX12_init 464 = .ok (.putfield 174, 3) := by decide +kernel
theorem dX12_init_467 : decode cX12_init 467 = .ok (.aload_n 0, 1) := by decide +kernel
theorem dX12_init_468 : decode cX12_init 468 = .ok (.bipush 24, 2) := by decide +kernel
theorem dX12_init_470 : decode cX12_init 470 = .ok (.newarray .int, 2) := by decide +kernel
theorem dX12_init_472 : decode cX12_init 472 = .ok (.putfield 177, 3) := by decide +kernel
theorem dX12_init_475 : decode cX12_init 475 = .ok (.aload_n 0, 1) := by decide +kernel
theorem dX12_init_476 : decode cX12_init 476 = .ok (.bipush 6, 2) := by decide +kernel
theorem dX12_init_478 : decode cX12_init 478 = .ok (.newarray .int, 2) := by decide +kernel
theorem dX12_init_480 : decode cX12_init 480 = .ok (.dup, 1) := by decide +kernel
theorem dX12_init_481 : decode cX12_init 481 = .ok (.iconst 0, 1) := by decide +kernel
theorem dX12_init_482 : decode cX12_init 482 = .ok (.iconst (-1), 1) := by decide +kernel
theorem dX12_init_483 : decode cX12_init 483 = .ok (.iastore, 1) := by decide +kernel
theorem dX12_init_484 : decode cX12_init 484 = .ok (.dup, 1) := by decide +kernel
theorem dX12_init_485 : decode cX12_init 485 = .ok (.iconst 1, 1) := by decide +kernel
theorem dX12_init_486 : decode cX12_init 486 = .ok (.iconst (-1), 1) := by decide +kernel
theorem dX12_init_487 : decode cX12_init 487 = .ok (.iastore, 1) := by decide +kernel
theorem dX12_init_488 : decode cX12_init 488 = .ok (.dup, 1) := by decide +kernel
theorem dX12_init_489 : decode cX12_init 489 = .ok (.iconst 2, 1) := by decide +kernel
theorem dX12_init_490 : decode cX12_init 490 = .ok (.iconst (-1), 1) := by decide +kernel
theorem dX12_init_491 : decode cX12_init 491 = .ok (.iastore, 1) := by decide +kernel
theorem dX12_init_492 : decode cX12_init 492 = .ok (.dup, 1) := by decide +kernel
theorem dX12_init_493 : decode cX12_init 493 = .ok (.iconst 3, 1) := by decide +kernel
theorem dX12_init_494 : decode cX12_init 494 = .ok (.iconst (-1), 1) := by decide +kernel
theorem dX12_init_495 : decode cX12_init 495 = .ok (.iastore, 1) := by decide +kernel
theorem dX12_init_496 : decode cX12_init 496 = .ok (.dup, 1) := by decide +kernel
theorem dX12_init_497 : decode cX12_init 497 = .ok (.iconst 4, 1) := by decide +kernel
theorem dX12_init_498 : decode cX12_init 498 = .ok (.iconst (-1), 1) := by decide +kernel
theorem dX12_init_499 : decode cX12_init 499 = .ok (.iastore, 1) := by decide +kernel
theorem dX12_init_500 : decode cX12_init 500 = .ok (.dup, 1) := by decide +kernel
theorem dX12_init_501 : decode cX12_init 501 = .ok (.iconst 5, 1) := by decide +kernel
theorem dX12_init_502 : decode cX12_init 502 = .ok (.iconst (-1), 1) := by decide +kernel
theorem dX12_init_503 : decode cX12_init 503 = .ok (.iastore, 1) := by decide +kernel
theorem dX12_init_504 : decode cX12_init 504 = .ok (.putfield 180, 3) := by decide +kernel
theorem dX12_init_507 : decode cX12_init 507 = .ok (.aload_n 0, 1) := by decide +kernel
theorem dX12_init_508 : decode cX12_init 508 = .ok (.bipush 6, 2) := by decide +kernel
theorem dX12_init_510 : decode cX12_init 510 = .ok (.newarray .int, 2) := by decide +kernel
theorem dX12_init_512 : decode cX12_init 512 = .ok (.putfield 183, 3) := by decide +kernel
theorem dX12_init_515 : decode cX12_init 515 = .ok (.aload_n 0, 1) := by decide +kernel
theorem dX12_init_516 : decode cX12_init 516 = .ok (.sipush 360, 3) := by decide +kernel
theorem dX12_init_519 : decode cX12_init 519 = .ok (.newarray .long, 2) := by decide +kernel
theorem dX12_init_521 : decode cX12_init 521 = .ok (.putfield 186, 3) := by decide +kernel
theorem dX12_init_524 : decode cX12_init 524 = .ok (.aload_n 0, 1) := by decide +kernel
theorem dX12_init_525 : decode cX12_init 525 = .ok (.bipush 60, 2) := by decide +kernel
theorem dX12_init_527 : decode cX12_init 527 = .ok (.newarray .long, 2) := by decide +kernel
theorem dX12_init_529 : decode cX12_init 529 = .ok (.putfield 189, 3) := by decide +kernel
theorem dX12_init_532 : decode cX12_init 532 = .ok (.return_, 1) := by decide +kernel
theorem dX12_in_0 : decode cX12_in 0 = .ok (.iload_n 0, 1) := by decide +kernel
theorem dX12_in_1 : decode cX12_in 1 = .ok (.iload_n 1, 1) := by decide +kernel
theorem dX12_in_2 : decode cX12_in 2 = .ok (.if_icmp .lt 12, 3) := by decide +kernel
theorem dX12_in_5 : decode cX12_in 5 = .ok (.iload_n 0, 1) := by decide +kernel
theorem dX12_in_6 : decode cX12_in 6 = .ok (.iload_n 2, 1) := by decide +kernel
theorem dX12_in_7 : decode cX12_in 7 = .ok (.if_icmp .gt 7, 3) := by decide +kernel
theorem dX12_in_10 : decode cX12_in 10 = .ok (.iconst 1, 1) := by decide +kernel
theorem dX12_in_11 : decode cX12_in 11 = .ok (.goto 4, 3) := by decide +kernel
theorem dX12_in_14 : decode cX12_in 14 = .ok (.iconst 0, 1) := by decide +kernel
theorem dX12_in_15 : decode cX12_in 15 = .ok (.ireturn, 1) := by decide +kernel
theorem dX12_isDay_0 : decode cX12_isDay 0 = .ok (.iload_n 0, 1) := by decide +kernel
theorem dX12_isDay_1 : decode cX12_isDay 1 = .ok (.iconst 0, 1) := by decide +kernel
theorem dX12_isDay_2 : decode cX12_isDay 2 = .ok (.sipush 999, 3) := by decide +kernel
theorem dX12_isDay_5 : decode cX12_isDay 5 = .ok (.invokestatic 195, 3) := by decide +kernel
theorem dX12_isDay_8 : decode cX12_isDay 8 = .ok (.ireturn, 1) := by decide +kernel
theorem dX12_isCell_0 : decode cX12_isCell 0 = .ok (.iload_n 0, 1) := by decide +kernel
theorem dX12_isCell_1 : decode cX12_isCell 1 = .ok (.iconst 0, 1) := by decide +kernel
theorem dX12_isCell_2 : decode cX12_isCell 2 = .ok (.bipush 59, 2) := by decide +kernel
theorem dX12_isCell_4 : decode cX12_isCell 4 = .ok (.invokestatic 195, 3) := by decide +kernel
theorem dX12_isCell_7 : decode cX12_isCell 7 = .ok (.ireturn, 1) := by decide +kernel
theorem dX12_sizeOf_0 : decode cX12_sizeOf 0 = .ok (.iload_n 0, 1) := by decide +kernel
theorem dX12_sizeOf_1 : decode cX12_sizeOf 1 = .ok (.ifCond .ge 8, 3) := by decide +kernel
theorem dX12_sizeOf_4 : decode cX12_sizeOf 4 = .ok (.iload_n 0, 1) := by decide +kernel
theorem dX12_sizeOf_5 : decode cX12_sizeOf 5 = .ok (.ineg, 1) := by decide +kernel
theorem dX12_sizeOf_6 : decode cX12_sizeOf 6 = .ok (.goto 4, 3) := by decide +kernel
theorem dX12_sizeOf_9 : decode cX12_sizeOf 9 = .ok (.iload_n 0, 1) := by decide +kernel
theorem dX12_sizeOf_10 : decode cX12_sizeOf 10 = .ok (.ireturn, 1) := by decide +kernel
theorem dX12_farOf_0 : decode cX12_farOf 0 = .ok (.iload_n 0, 1) := by decide +kernel
theorem dX12_farOf_1 : decode cX12_farOf 1 = .ok (.bipush 10, 2) := by decide +kernel
theorem dX12_farOf_3 : decode cX12_farOf 3 = .ok (.idiv, 1) := by decide +kernel
theorem dX12_farOf_4 : decode cX12_farOf 4 = .ok (.iload_n 1, 1) := by decide +kernel
theorem dX12_farOf_5 : decode cX12_farOf 5 = .ok (.bipush 10, 2) := by decide +kernel
theorem dX12_farOf_7 : decode cX12_farOf 7 = .ok (.idiv, 1) := by decide +kernel
theorem dX12_farOf_8 : decode cX12_farOf 8 = .ok (.isub, 1) := by decide +kernel
theorem dX12_farOf_9 : decode cX12_farOf 9 = .ok (.invokestatic 199, 3) := by decide +kernel
theorem dX12_farOf_12 : decode cX12_farOf 12 = .ok (.iload_n 0, 1) := by decide +kernel
theorem dX12_farOf_13 : decode cX12_farOf 13 = .ok (.bipush 10, 2) := by decide +kernel
theorem dX12_farOf_15 : decode cX12_farOf 15 = .ok (.irem, 1) := by decide +kernel
theorem dX12_farOf_16 : decode cX12_farOf 16 = .ok (.iload_n 1, 1) := by decide +kernel
theorem dX12_farOf_17 : decode cX12_farOf 17 = .ok (.bipush 10, 2) := by decide +kernel
theorem dX12_farOf_19 : decode cX12_farOf 19 = .ok (.irem, 1) := by decide +kernel
theorem dX12_farOf_20 : decode cX12_farOf 20 = .ok (.isub, 1) := by decide +kernel
theorem dX12_farOf_21 : decode cX12_farOf 21 = .ok (.invokestatic 199, 3) := by decide +kernel
theorem dX12_farOf_24 : decode cX12_farOf 24 = .ok (.iadd, 1) := by decide +kernel
theorem dX12_farOf_25 : decode cX12_farOf 25 = .ok (.ireturn, 1) := by decide +kernel
theorem dX12_days_0 : decode cX12_days 0 = .ok (.iload_n 1, 1) := by decide +kernel
theorem dX12_days_1 : decode cX12_days 1 = .ok (.iconst 1, 1) := by decide +kernel
theorem dX12_days_2 : decode cX12_days 2 = .ok (.bipush 100, 2) := by decide +kernel
theorem dX12_days_4 : decode cX12_days 4 = .ok (.invokestatic 195, 3) := by decide +kernel
theorem dX12_days_7 : decode cX12_days 7 = .ok (.ifCond .eq 15, 3) := by decide +kernel
theorem dX12_days_10 : decode cX12_days 10 = .ok (.aload_n 0, 1) := by decide +kernel
theorem dX12_days_11 : decode cX12_days 11 = .ok (.getfield 203, 3) := by decide +kernel
theorem dX12_days_14 : decode cX12_days 14 = .ok (.iload_n 1, 1) := by decide +kernel
theorem dX12_days_15 : decode cX12_days 15 = .ok (.iadd, 1) := by decide +kernel
theorem dX12_days_16 : decode cX12_days 16 = .ok (.sipush 999, 3) := by decide +kernel
theorem dX12_days_19 : decode cX12_days 19 = .ok (.if_icmp .le 5, 3) := by decide +kernel
theorem dX12_days_22 : decode cX12_days 22 = .ok (.iconst (-1), 1) := by decide +kernel
theorem dX12_days_23 : decode cX12_days 23 = .ok (.ireturn, 1) := by decide +kernel
theorem dX12_days_24 : decode cX12_days 24 = .ok (.aload_n 0, 1) := by decide +kernel
theorem dX12_days_25 : decode cX12_days 25 = .ok (.dup, 1) := by decide +kernel
theorem dX12_days_26 : decode cX12_days 26 = .ok (.getfield 203, 3) := by decide +kernel
theorem dX12_days_29 : decode cX12_days 29 = .ok (.iload_n 1, 1) := by decide +kernel
theorem dX12_days_30 : decode cX12_days 30 = .ok (.iadd, 1) := by decide +kernel
theorem dX12_days_31 : decode cX12_days 31 = .ok (.putfield 203, 3) := by decide +kernel
theorem dX12_days_34 : decode cX12_days 34 = .ok (.aload_n 0, 1) := by decide +kernel
theorem dX12_days_35 : decode cX12_days 35 = .ok (.getfield 203, 3) := by decide +kernel
theorem dX12_days_38 : decode cX12_days 38 = .ok (.ireturn, 1) := by decide +kernel
theorem dX12_ownerOf_0 : decode cX12_ownerOf 0 = .ok (.aload_n 0, 1) := by decide +kernel
theorem dX12_ownerOf_1 : decode cX12_ownerOf 1 = .ok (.getfield 7, 3) := by decide +kernel
theorem dX12_ownerOf_4 : decode cX12_ownerOf 4 = .ok (.iload_n 1, 1) := by decide +kernel
theorem dX12_ownerOf_5 : decode cX12_ownerOf 5 = .ok (.iaload, 1) := by decide +kernel
theorem dX12_ownerOf_6 : decode cX12_ownerOf 6 = .ok (.iconst 1, 1) := by decide +kernel
theorem dX12_ownerOf_7 : decode cX12_ownerOf 7 = .ok (.isub, 1) := by decide +kernel
theorem dX12_ownerOf_8 : decode cX12_ownerOf 8 = .ok (.ireturn, 1) := by decide +kernel
theorem dX12_owner_0 : decode cX12_owner 0 = .ok (.iload_n 1, 1) := by decide +kernel
theorem dX12_owner_1 : decode cX12_owner 1 = .ok (.invokestatic 206, 3) := by decide +kernel
theorem dX12_owner_4 : decode cX12_owner 4 = .ok (.ifCond .eq 13, 3) := by decide +kernel
theorem dX12_owner_7 : decode cX12_owner 7 = .ok (.iload_n 2, 1) := by decide +kernel
theorem dX12_owner_8 : decode cX12_owner 8 = .ok (.iconst (-1), 1) := by decide +kernel
theorem dX12_owner_9 : decode cX12_owner 9 = .ok (.bipush 9, 2) := by decide +kernel
theorem dX12_owner_11 : decode cX12_owner 11 = .ok (.invokestatic 195, 3) := by decide +kernel
theorem dX12_owner_14 : decode cX12_owner 14 = .ok (.ifCond .ne 6, 3) := by decide +kernel
theorem dX12_owner_17 : decode cX12_owner 17 = .ok (.ldc 210, 2) := by decide +kernel
theorem dX12_owner_19 : decode cX12_owner 19 = .ok (.ireturn, 1) := by decide +kernel
theorem dX12_owner_20 : decode cX12_owner 20 = .ok (.aload_n 0, 1) := by decide +kernel
theorem dX12_owner_21 : decode cX12_owner 21 = .ok (.iload_n 1, 1) := by decide +kernel
theorem dX12_owner_22 : decode cX12_owner 22 = .ok (.invokevirtual 211, 3) := by decide +kernel
theorem dX12_owner_25 : decode cX12_owner 25 = .ok (.istore_n 3, 1) := by decide +kernel
theorem dX12_owner_26 : decode cX12_owner 26 = .ok (.aload_n 0, 1) := by decide +kernel
theorem dX12_owner_27 : decode cX12_owner 27 = .ok (.getfield 7, 3) := by decide +kernel
theorem dX12_owner_30 : decode cX12_owner 30 = .ok (.iload_n 1, 1) := by decide +kernel
theorem dX12_owner_31 : decode cX12_owner 31 = .ok (.iload_n 2, 1) := by decide +kernel
theorem dX12_owner_32 : decode cX12_owner 32 = .ok (.iconst 1, 1) := by decide +kernel
theorem dX12_owner_33 : decode cX12_owner 33 = .ok (.iadd, 1) := by decide +kernel
theorem dX12_owner_34 : decode cX12_owner 34 = .ok (.iastore, 1) := by decide +kernel
theorem dX12_owner_35 : decode cX12_owner 35 = .ok (.iload_n 3, 1) := by decide +kernel
theorem dX12_owner_36 : decode cX12_owner 36 = .ok (.ireturn, 1) := by decide +kernel
theorem dX12_isBody_0 : decode cX12_isBody 0 = .ok (.iload_n 1, 1) := by decide +kernel
theorem dX12_isBody_1 : decode cX12_isBody 1 = .ok (.iconst 0, 1) := by decide +kernel
theorem dX12_isBody_2 : decode cX12_isBody 2 = .ok (.aload_n 0, 1) := by decide +kernel
theorem dX12_isBody_3 : decode cX12_isBody 3 = .ok (.getfield 214, 3) := by decide +kernel
theorem dX12_isBody_6 : decode cX12_isBody 6 = .ok (.iconst 1, 1) := by decide +kernel
theorem dX12_isBody_7 : decode cX12_isBody 7 = .ok (.isub, 1) := by decide +kernel
theorem dX12_isBody_8 : decode cX12_isBody 8 = .ok (.invokestatic 195, 3) := by decide +kernel
theorem dX12_isBody_11 : decode cX12_isBody 11 = .ok (.ireturn, 1) := by decide +kernel
theorem dX12_isUnder_0 : decode cX12_isUnder 0 = .ok (.iload_n 1, 1) := by decide +kernel
theorem dX12_isUnder_1 : decode cX12_isUnder 1 = .ok (.ifCond .eq 8, 3) := by decide +kernel
theorem dX12_isUnder_4 : decode cX12_isUnder 4 = .ok (.iload_n 0, 1) := by decide +kernel
theorem dX12_isUnder_5 : decode cX12_isUnder 5 = .ok (.iload_n 1, 1) := by decide +kernel
theorem dX12_isUnder_6 : decode cX12_isUnder 6 = .ok (.if_icmp .ne 5, 3) := by decide +kernel
theorem dX12_isUnder_9 : decode cX12_isUnder 9 = .ok (.iconst 1, 1) := by decide +kernel
theorem dX12_isUnder_10 : decode cX12_isUnder 10 = .ok (.ireturn, 1) := by decide +kernel
theorem dX12_isUnder_11 : decode cX12_isUnder 11 = .ok (.iload_n 1, 1) := by decide +kernel
theorem dX12_isUnder_12 : decode cX12_isUnder 12 = .ok (.iconst 1, 1) := by decide +kernel
theorem dX12_isUnder_13 : decode cX12_isUnder 13 = .ok (.if_icmp .ne 12, 3) := by decide +kernel
theorem dX12_isUnder_16 : decode cX12_isUnder 16 = .ok (.iload_n 0, 1) := by decide +kernel
theorem dX12_isUnder_17 : decode cX12_isUnder 17 = .ok (.iconst 2, 1) := by decide +kernel
theorem dX12_isUnder_18 : decode cX12_isUnder 18 = .ok (.iconst 5, 1) := by decide +kernel
theorem dX12_isUnder_19 : decode cX12_isUnder 19 = .ok (.invokestatic 195, 3) := by decide +kernel
theorem dX12_isUnder_22 : decode cX12_isUnder 22 = .ok (.ifCond .ne 13, 3) := by decide +kernel
theorem dX12_isUnder_25 : decode cX12_isUnder 25 = .ok (.iload_n 1, 1) := by decide +kernel
theorem dX12_isUnder_26 : decode cX12_isUnder 26 = .ok (.iconst 2, 1) := by decide +kernel
theorem dX12_isUnder_27 : decode cX12_isUnder 27 = .ok (.if_icmp .ne 12, 3) := by decide +kernel
theorem dX12_isUnder_30 : decode cX12_isUnder 30 = .ok (.iload_n 0, 1) := by decide +kernel
theorem dX12_isUnder_31 : decode cX12_isUnder 31 = .ok (.iconst 5, 1) := by decide +kernel
theorem dX12_isUnder_32 : decode cX12_isUnder 32 = .ok (.if_icmp .ne 7, 3) := by decide +kernel
theorem dX12_isUnder_35 : decode cX12_isUnder 35 = .ok (.iconst 1, 1) := by decide +kernel
theorem dX12_isUnder_36 : decode cX12_isUnder 36 = .ok (.goto 4, 3) := by decide +kernel
theorem dX12_isUnder_39 : decode cX12_isUnder 39 = .ok (.iconst 0, 1) := by decide +kernel
theorem dX12_isUnder_40 : decode cX12_isUnder 40 = .ok (.ireturn, 1) := by decide +kernel
theorem dX12_isBox_0 : decode cX12_isBox 0 = .ok (.aload_n 0, 1) := by decide +kernel
theorem dX12_isBox_1 : decode cX12_isBox 1 = .ok (.iload_n 1, 1) := by decide +kernel
theorem dX12_isBox_2 : decode cX12_isBox 2 = .ok (.invokevirtual 217, 3) := by decide +kernel
theorem dX12_isBox_5 : decode cX12_isBox 5 = .ok (.ifCond .eq 20, 3) := by decide +kernel
theorem dX12_isBox_8 : decode cX12_isBox 8 = .ok (.aload_n 0, 1) := by decide +kernel
theorem dX12_isBox_9 : decode cX12_isBox 9 = .ok (.getfield 13, 3) := by decide +kernel
theorem dX12_isBox_12 : decode cX12_isBox 12 = .ok (.iload_n 1, 1) := by decide +kernel
theorem dX12_isBox_13 : decode cX12_isBox 13 = .ok (.iaload, 1) := by decide +kernel
theorem dX12_isBox_14 : decode cX12_isBox 14 = .ok (.iconst 1, 1) := by decide +kernel
theorem dX12_isBox_15 : decode cX12_isBox 15 = .ok (.invokestatic 220, 3) := by decide +kernel
theorem dX12_isBox_18 : decode cX12_isBox 18 = .ok (.ifCond .eq 7, 3) := by decide +kernel
theorem dX12_isBox_21 : decode cX12_isBox 21 = .ok (.iconst 1, 1) := by decide +kernel
theorem dX12_isBox_22 : decode cX12_isBox 22 = .ok (.goto 4, 3) := by decide +kernel
theorem dX12_isBox_25 : decode cX12_isBox 25 = .ok (.iconst 0, 1) := by decide +kernel
theorem dX12_isBox_26 : decode cX12_isBox 26 = .ok (.ireturn, 1) := by decide +kernel
theorem dX12_isRiddle_0 : decode cX12_isRiddle 0 = .ok (.aload_n 0, 1) := by decide +kernel
theorem dX12_isRiddle_1 : decode cX12_isRiddle 1 = .ok (.iload_n 1, 1) := by decide +kernel
theorem dX12_isRiddle_2 : decode cX12_isRiddle 2 = .ok (.invokevirtual 217, 3) := by decide +kernel
theorem dX12_isRiddle_5 : decode cX12_isRiddle 5 = .ok (.ifCond .eq 20, 3) := by decide +kernel
theorem dX12_isRiddle_8 : decode cX12_isRiddle 8 = .ok (.aload_n 0, 1) := by decide +kernel
theorem dX12_isRiddle_9 : decode cX12_isRiddle 9 = .ok (.getfield 13, 3) := by decide +kernel
theorem dX12_isRiddle_12 : decode cX12_isRiddle 12 = .ok (.iload_n 1, 1) := by decide +kernel
theorem dX12_isRiddle_13 : decode cX12_isRiddle 13 = .ok (.iaload, 1) := by decide +kernel
theorem dX12_isRiddle_14 : decode cX12_isRiddle 14 = .ok (.iconst 2, 1) := by decide +kernel
theorem dX12_isRiddle_15 : decode cX12_isRiddle 15 = .ok (.invokestatic 220, 3) := by decide +kernel
theorem dX12_isRiddle_18 : decode cX12_isRiddle 18 = .ok (.ifCond .eq 7, 3) := by decide +kernel
theorem dX12_isRiddle_21 : decode cX12_isRiddle 21 = .ok (.iconst 1, 1) := by decide +kernel
theorem dX12_isRiddle_22 : decode cX12_isRiddle 22 = .ok (.goto 4, 3) := by decide +kernel
theorem dX12_isRiddle_25 : decode cX12_isRiddle 25 = .ok (.iconst 0, 1) := by decide +kernel
theorem dX12_isRiddle_26 : decode cX12_isRiddle 26 = .ok (.ireturn, 1) := by decide +kernel
theorem dX12_isFinder_0 : decode cX12_isFinder 0 = .ok (.aload_n 0, 1) := by decide +kernel
theorem dX12_isFinder_1 : decode cX12_isFinder 1 = .ok (.iload_n 1, 1) := by decide +kernel
theorem dX12_isFinder_2 : decode cX12_isFinder 2 = .ok (.invokevirtual 217, 3) := by decide +kernel
theorem dX12_isFinder_5 : decode cX12_isFinder 5 = .ok (.ifCond .eq 18, 3) := by decide +kernel
theorem dX12_isFinder_8 : decode cX12_isFinder 8 = .ok (.aload_n 0, 1) := by decide +kernel
theorem dX12_isFinder_9 : decode cX12_isFinder 9 = .ok (.getfield 13, 3) := by decide +kernel
theorem dX12_isFinder_12 : decode cX12_isFinder 12 = .ok (.iload_n 1, 1) := by decide +kernel
theorem dX12_isFinder_13 : decode cX12_isFinder 13 = .ok (.iaload, 1) := by decide +kernel
theorem dX12_isFinder_14 : decode cX12_isFinder 14 = .ok (.bipush 7, 2) := by decide +kernel
theorem dX12_isFinder_16 : decode cX12_isFinder 16 = .ok (.if_icmp .ne 7, 3) := by decide +kernel
theorem dX12_isFinder_19 : decode cX12_isFinder 19 = .ok (.iconst 1, 1) := by decide +kernel
theorem dX12_isFinder_20 : decode cX12_isFinder 20 = .ok (.goto 4, 3) := by decide +kernel
theorem dX12_isFinder_23 : decode cX12_isFinder 23 = .ok (.iconst 0, 1) := by decide +kernel
theorem dX12_isFinder_24 : decode cX12_isFinder 24 = .ok (.ireturn, 1) := by decide +kernel
theorem dX12_isThing_0 : decode cX12_isThing 0 = .ok (.aload_n 0, 1) := by decide +kernel
theorem dX12_isThing_1 : decode cX12_isThing 1 = .ok (.iload_n 1, 1) := by decide +kernel
theorem dX12_isThing_2 : decode cX12_isThing 2 = .ok (.invokevirtual 217, 3) := by decide +kernel
theorem dX12_isThing_5 : decode cX12_isThing 5 = .ok (.ifCond .eq 18, 3) := by decide +kernel
theorem dX12_isThing_8 : decode cX12_isThing 8 = .ok (.aload_n 0, 1) := by decide +kernel
theorem dX12_isThing_9 : decode cX12_isThing 9 = .ok (.getfield 13, 3) := by decide +kernel
theorem dX12_isThing_12 : decode cX12_isThing 12 = .ok (.iload_n 1, 1) := by decide +kernel
theorem dX12_isThing_13 : decode cX12_isThing 13 = .ok (.iaload, 1) := by decide +kernel
theorem dX12_isThing_14 : decode cX12_isThing 14 = .ok (.bipush 6, 2) := by decide +kernel
theorem dX12_isThing_16 : decode cX12_isThing 16 = .ok (.if_icmp .ne 7, 3) := by decide +kernel
theorem dX12_isThing_19 : decode cX12_isThing 19 = .ok (.iconst 1, 1) := by decide +kernel
theorem dX12_isThing_20 : decode cX12_isThing 20 = .ok (.goto 4, 3) := by decide +kernel
theorem dX12_isThing_23 : decode cX12_isThing 23 = .ok (.iconst 0, 1) := by decide +kernel
theorem dX12_isThing_24 : decode cX12_isThing 24 = .ok (.ireturn, 1) := by decide +kernel
theorem dX12_isOut_0 : decode cX12_isOut 0 = .ok (.aload_n 0, 1) := by decide +kernel
theorem dX12_isOut_1 : decode cX12_isOut 1 = .ok (.iload_n 1, 1) := by decide +kernel
theorem dX12_isOut_2 : decode cX12_isOut 2 = .ok (.invokevirtual 224, 3) := by decide +kernel
theorem dX12_isOut_5 : decode cX12_isOut 5 = .ok (.ifCond .eq 16, 3) := by decide +kernel
theorem dX12_isOut_8 : decode cX12_isOut 8 = .ok (.aload_n 0, 1) := by decide +kernel
theorem dX12_isOut_9 : decode cX12_isOut 9 = .ok (.getfield 22, 3) := by decide +kernel
theorem dX12_isOut_12 : decode cX12_isOut 12 = .ok (.iload_n 1, 1) := by decide +kernel
theorem dX12_isOut_13 : decode cX12_isOut 13 = .ok (.iaload, 1) := by decide +kernel
theorem dX12_isOut_14 : decode cX12_isOut 14 = .ok (.ifCond .ge 7, 3) := by decide +kernel
theorem dX12_isOut_17 : decode cX12_isOut 17 = .ok (.iconst 1, 1) := by decide +kernel
theorem dX12_isOut_18 : decode cX12_isOut 18 = .ok (.goto 4, 3) := by decide +kernel
theorem dX12_isOut_21 : decode cX12_isOut 21 = .ok (.iconst 0, 1) := by decide +kernel
theorem dX12_isOut_22 : decode cX12_isOut 22 = .ok (.ireturn, 1) := by decide +kernel
theorem dX12_add_0 : decode cX12_add 0 = .ok (.aload_n 0, 1) := by decide +kernel
theorem dX12_add_1 : decode cX12_add 1 = .ok (.getfield 13, 3) := by decide +kernel
theorem dX12_add_4 : decode cX12_add 4 = .ok (.aload_n 0, 1) := by decide +kernel
theorem dX12_add_5 : decode cX12_add 5 = .ok (.getfield 214, 3) := by decide +kernel
theorem dX12_add_8 : decode cX12_add 8 = .ok (.iload_n 1, 1) := by decide +kernel
theorem dX12_add_9 : decode cX12_add 9 = .ok (.iastore, 1) := by decide +kernel
theorem dX12_add_10 : decode cX12_add 10 = .ok (.aload_n 0, 1) := by decide +kernel
theorem dX12_add_11 : decode cX12_add 11 = .ok (.getfield 22, 3) := by decide +kernel
theorem dX12_add_14 : decode cX12_add 14 = .ok (.aload_n 0, 1) := by decide +kernel
theorem dX12_add_15 : decode cX12_add 15 = .ok (.getfield 214, 3) := by decide +kernel
theorem dX12_add_18 : decode cX12_add 18 = .ok (.iconst (-1), 1) := by decide +kernel
theorem dX12_add_19 : decode cX12_add 19 = .ok (.iastore, 1) := by decide +kernel
theorem dX12_add_20 : decode cX12_add 20 = .ok (.aload_n 0, 1) := by decide +kernel
theorem dX12_add_21 : decode cX12_add 21 = .ok (.getfield 19, 3) := by decide +kernel
theorem dX12_add_24 : decode cX12_add 24 = .ok (.aload_n 0, 1) := by decide +kernel
theorem dX12_add_25 : decode cX12_add 25 = .ok (.getfield 214, 3) := by decide +kernel
theorem dX12_add_28 : decode cX12_add 28 = .ok (.aload_n 0, 1) := by decide +kernel
theorem dX12_add_29 : decode cX12_add 29 = .ok (.getfield 203, 3) := by decide +kernel
theorem dX12_add_32 : decode cX12_add 32 = .ok (.iastore, 1) := by decide +kernel
theorem dX12_add_33 : decode cX12_add 33 = .ok (.aload_n 0, 1) := by decide +kernel
theorem dX12_add_34 : decode cX12_add 34 = .ok (.getfield 25, 3) := by decide +kernel
theorem dX12_add_37 : decode cX12_add 37 = .ok (.aload_n 0, 1) := by decide +kernel
theorem dX12_add_38 : decode cX12_add 38 = .ok (.getfield 214, 3) := by decide +kernel
theorem dX12_add_41 : decode cX12_add 41 = .ok (.iconst (-1), 1) := by decide +kernel
theorem dX12_add_42 : decode cX12_add 42 = .ok (.iastore, 1) := by decide +kernel
theorem dX12_add_43 : decode cX12_add 43 = .ok (.aload_n 0, 1) := by decide +kernel
theorem dX12_add_44 : decode cX12_add 44 = .ok (.getfield 59, 3) := by decide +kernel
theorem dX12_add_47 : decode cX12_add 47 = .ok (.aload_n 0, 1) := by decide +kernel
theorem dX12_add_48 : decode cX12_add 48 = .ok (.getfield 214, 3) := by decide +kernel
theorem dX12_add_51 : decode cX12_add 51 = .ok (.iconst (-1), 1) := by decide +kernel
theorem dX12_add_52 : decode cX12_add 52 = .ok (.iastore, 1) := by decide +kernel
theorem dX12_add_53 : decode cX12_add 53 = .ok (.aload_n 0, 1) := by decide +kernel
theorem dX12_add_54 : decode cX12_add 54 = .ok (.dup, 1) := by decide +kernel
theorem dX12_add_55 : decode cX12_add 55 = .ok (.getfield 214, 3) := by decide +kernel
theorem dX12_add_58 : decode cX12_add 58 = .ok (.iconst 1, 1) := by decide +kernel
theorem dX12_add_59 : decode cX12_add 59 = .ok (.iadd, 1) := by decide +kernel
theorem dX12_add_60 : decode cX12_add 60 = .ok (.putfield 214, 3) := by decide +kernel
theorem dX12_add_63 : decode cX12_add 63 = .ok (.aload_n 0, 1) := by decide +kernel
theorem dX12_add_64 : decode cX12_add 64 = .ok (.getfield 214, 3) := by decide +kernel
theorem dX12_add_67 : decode cX12_add 67 = .ok (.iconst 1, 1) := by decide +kernel
theorem dX12_add_68 : decode cX12_add 68 = .ok (.isub, 1) := by decide +kernel
theorem dX12_add_69 : decode cX12_add 69 = .ok (.ireturn, 1) := by decide +kernel
theorem dX12_body_0 : decode cX12_body 0 = .ok (.iload_n 1, 1) := by decide +kernel
theorem dX12_body_1 : decode cX12_body 1 = .ok (.ifCond .eq 11, 3) := by decide +kernel
theorem dX12_body_4 : decode cX12_body 4 = .ok (.iload_n 1, 1) := by decide +kernel
theorem dX12_body_5 : decode cX12_body 5 = .ok (.bipush 6, 2) := by decide +kernel
theorem dX12_body_7 : decode cX12_body 7 = .ok (.if_icmp .eq 5, 3) := by decide +kernel
theorem dX12_body_10 : decode cX12_body 10 = .ok (.iconst (-1), 1) := by decide +kernel
theorem dX12_body_11 : decode cX12_body 11 = .ok (.ireturn, 1) := by decide +kernel
theorem dX12_body_12 : decode cX12_body 12 = .ok (.aload_n 0, 1) := by decide +kernel
theorem dX12_body_13 : decode cX12_body 13 = .ok (.getfield 214, 3) := by decide +kernel
theorem dX12_body_16 : decode cX12_body 16 = .ok (.sipush 150, 3) := by decide +kernel
theorem dX12_body_19 : decode cX12_body 19 = .ok (.if_icmp .ne 8, 3) := by decide +kernel
theorem dX12_body_22 : decode cX12_body 22 = .ok (.bipush (-3), 2) := by decide +kernel
theorem dX12_body_24 : decode cX12_body 24 = .ok (.goto 8, 3) := by decide +kernel
theorem dX12_body_27 : decode cX12_body 27 = .ok (.aload_n 0, 1) := by decide +kernel
theorem dX12_body_28 : decode cX12_body 28 = .ok (.iload_n 1, 1) := by decide +kernel
theorem dX12_body_29 : decode cX12_body 29 = .ok (.invokevirtual 227, 3) := by decide +kernel
theorem dX12_body_32 : decode cX12_body 32 = .ok (.ireturn, 1) := by decide +kernel
theorem dX12_finder_0 : decode cX12_finder 0 = .ok (.iload_n 1, 1) := by decide +kernel
theorem dX12_finder_1 : decode cX12_finder 1 = .ok (.invokestatic 206, 3) := by decide +kernel
theorem dX12_finder_4 : decode cX12_finder 4 = .ok (.ifCond .ne 5, 3) := by decide +kernel
theorem dX12_finder_7 : decode cX12_finder 7 = .ok (.iconst (-1), 1) := by decide +kernel
theorem dX12_finder_8 : decode cX12_finder 8 = .ok (.ireturn, 1) := by decide +kernel
theorem dX12_finder_9 : decode cX12_finder 9 = .ok (.aload_n 0, 1) := by decide +kernel
theorem dX12_finder_10 : decode cX12_finder 10 = .ok (.getfield 214, 3) := by decide +kernel
theorem dX12_finder_13 : decode cX12_finder 13 = .ok (.sipush 150, 3) := by decide +kernel
theorem dX12_finder_16 : decode cX12_finder 16 = .ok (.if_icmp .ne 6, 3) := by decide +kernel
theorem dX12_finder_19 : decode cX12_finder 19 = .ok (.bipush (-3), 2) := by decide +kernel
theorem dX12_finder_21 : decode cX12_finder 21 = .ok (.ireturn, 1) := by decide +kernel
theorem dX12_finder_22 : decode cX12_finder 22 = .ok (.aload_n 0, 1) := by decide +kernel
theorem dX12_finder_23 : decode cX12_finder 23 = .ok (.bipush 7, 2) := by decide +kernel
theorem dX12_finder_25 : decode cX12_finder 25 = .ok (.invokevirtual 227, 3) := by decide +kernel
theorem dX12_finder_28 : decode cX12_finder 28 = .ok (.istore_n 2, 1) := by decide +kernel
theorem dX12_finder_29 : decode cX12_finder 29 = .ok (.aload_n 0, 1) := by decide +kernel
theorem dX12_finder_30 : decode cX12_finder 30 = .ok (.getfield 16, 3) := by decide +kernel
theorem dX12_finder_33 : decode cX12_finder 33 = .ok (.iload_n 2, 1) := by decide +kernel
theorem dX12_finder_34 : decode cX12_finder 34 = .ok (.iload_n 1, 1) := by decide +kernel
theorem dX12_finder_35 : decode cX12_finder 35 = .ok (.iastore, 1) := by decide +kernel
theorem dX12_finder_36 : decode cX12_finder 36 = .ok (.iload_n 2, 1) := by decide +kernel
theorem dX12_finder_37 : decode cX12_finder 37 = .ok (.ireturn, 1) := by decide +kernel
theorem dX12_leaves_0 : decode cX12_leaves 0 = .ok (.aload_n 0, 1) := by decide +kernel
theorem dX12_leaves_1 : decode cX12_leaves 1 = .ok (.iload_n 1, 1) := by decide +kernel
theorem dX12_leaves_2 : decode cX12_leaves 2 = .ok (.invokevirtual 230, 3) := by decide +kernel
theorem dX12_leaves_5 : decode cX12_leaves 5 = .ok (.ifCond .ne 5, 3) := by decide +kernel
theorem dX12_leaves_8 : decode cX12_leaves 8 = .ok (.iconst (-1), 1) := by decide +kernel
theorem dX12_leaves_9 : decode cX12_leaves 9 = .ok (.ireturn, 1) := by decide +kernel
theorem dX12_leaves_10 : decode cX12_leaves 10 = .ok (.aload_n 0, 1) := by decide +kernel
theorem dX12_leaves_11 : decode cX12_leaves 11 = .ok (.getfield 22, 3) := by decide +kernel
theorem dX12_leaves_14 : decode cX12_leaves 14 = .ok (.iload_n 1, 1) := by decide +kernel
theorem dX12_leaves_15 : decode cX12_leaves 15 = .ok (.iaload, 1) := by decide +kernel
theorem dX12_leaves_16 : decode cX12_leaves 16 = .ok (.ifCond .lt 6, 3) := by decide +kernel
theorem dX12_leaves_19 : decode cX12_leaves 19 = .ok (.bipush (-2), 2) := by decide +kernel
theorem dX12_leaves_21 : decode cX12_leaves 21 = .ok (.ireturn, 1) := by decide +kernel
theorem dX12_leaves_22 : decode cX12_leaves 22 = .ok (.aload_n 0, 1) := by decide +kernel
theorem dX12_leaves_23 : decode cX12_leaves 23 = .ok (.getfield 22, 3) := by decide +kernel
theorem dX12_leaves_26 : decode cX12_leaves 26 = .ok (.iload_n 1, 1) := by decide +kernel
theorem dX12_leaves_27 : decode cX12_leaves 27 = .ok (.aload_n 0, 1) := by decide +kernel
theorem dX12_leaves_28 : decode cX12_leaves 28 = .ok (.getfield 203, 3) := by decide +kernel
theorem dX12_leaves_31 : decode cX12_leaves 31 = .ok (.iastore, 1) := by decide +kernel
theorem dX12_leaves_32 : decode cX12_leaves 32 = .ok (.iconst 1, 1) := by decide +kernel
theorem dX12_leaves_33 : decode cX12_leaves 33 = .ok (.ireturn, 1) := by decide +kernel
theorem dX12_step_0 : decode cX12_step 0 = .ok (.iload_n 1, 1) := by decide +kernel
theorem dX12_step_1 : decode cX12_step 1 = .ok (.invokestatic 206, 3) := by decide +kernel
theorem dX12_step_4 : decode cX12_step 4 = .ok (.ifCond .ne 5, 3) := by decide +kernel
theorem dX12_step_7 : decode cX12_step 7 = .ok (.iconst (-1), 1) := by decide +kernel
theorem dX12_step_8 : decode cX12_step 8 = .ok (.ireturn, 1) := by decide +kernel
theorem dX12_step_9 : decode cX12_step 9 = .ok (.aload_n 0, 1) := by decide +kernel
theorem dX12_step_10 : decode cX12_step 10 = .ok (.getfield 233, 3) := by decide +kernel
theorem dX12_step_13 : decode cX12_step 13 = .ok (.iconst 4, 1) := by decide +kernel
theorem dX12_step_14 : decode cX12_step 14 = .ok (.if_icmp .ne 6, 3) := by decide +kernel
theorem dX12_step_17 : decode cX12_step 17 = .ok (.bipush (-3), 2) := by decide +kernel
theorem dX12_step_19 : decode cX12_step 19 = .ok (.ireturn, 1) := by decide +kernel
theorem dX12_step_20 : decode cX12_step 20 = .ok (.aload_n 0, 1) := by decide +kernel
theorem dX12_step_21 : decode cX12_step 21 = .ok (.getfield 34, 3) := by decide +kernel
theorem dX12_step_24 : decode cX12_step 24 = .ok (.aload_n 0, 1) := by decide +kernel
theorem dX12_step_25 : decode cX12_step 25 = .ok (.getfield 233, 3) := by decide +kernel
theorem dX12_step_28 : decode cX12_step 28 = .ok (.iload_n 1, 1) := by decide +kernel
theorem dX12_step_29 : decode cX12_step 29 = .ok (.iastore, 1) := by decide +kernel
theorem dX12_step_30 : decode cX12_step 30 = .ok (.aload_n 0, 1) := by decide +kernel
theorem dX12_step_31 : decode cX12_step 31 = .ok (.dup, 1) := by decide +kernel
theorem dX12_step_32 : decode cX12_step 32 = .ok (.getfield 233, 3) := by decide +kernel
theorem dX12_step_35 : decode cX12_step 35 = .ok (.iconst 1, 1) := by decide +kernel
theorem dX12_step_36 : decode cX12_step 36 = .ok (.iadd, 1) := by decide +kernel
theorem dX12_step_37 : decode cX12_step 37 = .ok (.putfield 233, 3) := by decide +kernel
theorem dX12_step_40 : decode cX12_step 40 = .ok (.aload_n 0, 1) := by decide +kernel
theorem dX12_step_41 : decode cX12_step 41 = .ok (.getfield 233, 3) := by decide +kernel
theorem dX12_step_44 : decode cX12_step 44 = .ok (.ireturn, 1) := by decide +kernel
theorem dX12_cellNow_0 : decode cX12_cellNow 0 = .ok (.aload_n 0, 1) := by decide +kernel
theorem dX12_cellNow_1 : decode cX12_cellNow 1 = .ok (.getfield 236, 3) := by decide +kernel
theorem dX12_cellNow_4 : decode cX12_cellNow 4 = .ok (.iconst 1, 1) := by decide +kernel
theorem dX12_cellNow_5 : decode cX12_cellNow 5 = .ok (.isub, 1) := by decide +kernel
theorem dX12_cellNow_6 : decode cX12_cellNow 6 = .ok (.istore_n 2, 1) := by decide +kernel
theorem dX12_cellNow_7 : decode cX12_cellNow 7 = .ok (.iload_n 2, 1) := by decide +kernel
theorem dX12_cellNow_8 : decode cX12_cellNow 8 = .ok (.ifCond .lt 26, 3) := by decide +kernel
theorem dX12_cellNow_11 : decode cX12_cellNow 11 = .ok (.aload_n 0, 1) := by decide +kernel
theorem dX12_cellNow_12 : decode cX12_cellNow 12 = .ok (.getfield 37, 3) := by decide +kernel
theorem dX12_cellNow_15 : decode cX12_cellNow 15 = .ok (.iload_n 2, 1) := by decide +kernel
theorem dX12_cellNow_16 : decode cX12_cellNow 16 = .ok (.iaload, 1) := by decide +kernel
theorem dX12_cellNow_17 : decode cX12_cellNow 17 = .ok (.iload_n 1, 1) := by decide +kernel
theorem dX12_cellNow_18 : decode cX12_cellNow 18 = .ok (.if_icmp .ne 10, 3) := by decide +kernel
theorem dX12_cellNow_21 : decode cX12_cellNow 21 = .ok (.aload_n 0, 1) := by decide +kernel
theorem dX12_cellNow_22 : decode cX12_cellNow 22 = .ok (.getfield 40, 3) := by decide +kernel
theorem dX12_cellNow_25 : decode cX12_cellNow 25 = .ok (.iload_n 2, 1) := by decide +kernel
theorem dX12_cellNow_26 : decode cX12_cellNow 26 = .ok (.iaload, 1) := by decide +kernel
theorem dX12_cellNow_27 : decode cX12_cellNow 27 = .ok (.ireturn, 1) := by decide +kernel
theorem dX12_cellNow_28 : decode cX12_cellNow 28 = .ok (.iinc 2 (-1), 3) := by decide +kernel
theorem dX12_cellNow_31 : decode cX12_cellNow 31 = .ok (.goto (-24), 3) := by decide +kernel
theorem dX12_cellNow_34 : decode cX12_cellNow 34 = .ok (.aload_n 0, 1) := by decide +kernel
theorem dX12_cellNow_35 : decode cX12_cellNow 35 = .ok (.getfield 16, 3) := by decide +kernel
theorem dX12_cellNow_38 : decode cX12_cellNow 38 = .ok (.iload_n 1, 1) := by decide +kernel
theorem dX12_cellNow_39 : decode cX12_cellNow 39 = .ok (.iaload, 1) := by decide +kernel
theorem dX12_cellNow_40 : decode cX12_cellNow 40 = .ok (.ireturn, 1) := by decide +kernel
theorem dX12_liesNow_0 : decode cX12_liesNow 0 = .ok (.aload_n 0, 1) := by decide +kernel
theorem dX12_liesNow_1 : decode cX12_liesNow 1 = .ok (.getfield 13, 3) := by decide +kernel
theorem dX12_liesNow_4 : decode cX12_liesNow 4 = .ok (.iload_n 1, 1) := by decide +kernel
theorem dX12_liesNow_5 : decode cX12_liesNow 5 = .ok (.iaload, 1) := by decide +kernel
theorem dX12_liesNow_6 : decode cX12_liesNow 6 = .ok (.iconst 3, 1) := by decide +kernel
theorem dX12_liesNow_7 : decode cX12_liesNow 7 = .ok (.if_icmp .ne 23, 3) := by decide +kernel
theorem dX12_liesNow_10 : decode cX12_liesNow 10 = .ok (.aload_n 0, 1) := by decide +kernel
theorem dX12_liesNow_11 : decode cX12_liesNow 11 = .ok (.getfield 31, 3) := by decide +kernel
theorem dX12_liesNow_14 : decode cX12_liesNow 14 = .ok (.iconst 4, 1) := by decide +kernel
theorem dX12_liesNow_15 : decode cX12_liesNow 15 = .ok (.iload_n 1, 1) := by decide +kernel
theorem dX12_liesNow_16 : decode cX12_liesNow 16 = .ok (.imul, 1) := by decide +kernel
theorem dX12_liesNow_17 : decode cX12_liesNow 17 = .ok (.aload_n 0, 1) := by decide +kernel
theorem dX12_liesNow_18 : decode cX12_liesNow 18 = .ok (.getfield 28, 3) := by decide +kernel
theorem dX12_liesNow_21 : decode cX12_liesNow 21 = .ok (.iload_n 1, 1) := by decide +kernel
theorem dX12_liesNow_22 : decode cX12_liesNow 22 = .ok (.iaload, 1) := by decide +kernel
theorem dX12_liesNow_23 : decode cX12_liesNow 23 = .ok (.iadd, 1) := by decide +kernel
theorem dX12_liesNow_24 : decode cX12_liesNow 24 = .ok (.iconst 1, 1) := by decide +kernel
theorem dX12_liesNow_25 : decode cX12_liesNow 25 = .ok (.isub, 1) := by decide +kernel
theorem dX12_liesNow_26 : decode cX12_liesNow 26 = .ok (.iaload, 1) := by decide +kernel
theorem dX12_liesNow_27 : decode cX12_liesNow 27 = .ok (.goto 8, 3) := by decide +kernel
theorem dX12_liesNow_30 : decode cX12_liesNow 30 = .ok (.aload_n 0, 1) := by decide +kernel
theorem dX12_liesNow_31 : decode cX12_liesNow 31 = .ok (.iload_n 1, 1) := by decide +kernel
theorem dX12_liesNow_32 : decode cX12_liesNow 32 = .ok (.invokevirtual 239, 3) := by decide +kernel
theorem dX12_liesNow_35 : decode cX12_liesNow 35 = .ok (.ireturn, 1) := by decide +kernel
theorem dX12_liesAtMoment_0 : decode cX12_liesAtMoment 0 = .ok (.iload_n 2, 1) := by decide +kernel
theorem dX12_liesAtMoment_1 : decode cX12_liesAtMoment 1 = .ok (.bipush 24, 2) := by decide +kernel
theorem dX12_liesAtMoment_3 : decode cX12_liesAtMoment 3 = .ok (.aload_n 0, 1) := by decide +kernel
theorem dX12_liesAtMoment_4 : decode cX12_liesAtMoment 4 = .ok (.getfield 19, 3) := by decide +kernel
theorem dX12_liesAtMoment_7 : decode cX12_liesAtMoment 7 = .ok (.iload_n 1, 1) := by decide +kernel
theorem dX12_liesAtMoment_8 : decode cX12_liesAtMoment 8 = .ok (.iaload, 1) := by decide +kernel
theorem dX12_liesAtMoment_9 : decode cX12_liesAtMoment 9 = .ok (.imul, 1) := by decide +kernel
theorem dX12_liesAtMoment_10 : decode cX12_liesAtMoment 10 = .ok (.if_icmp .lt 25, 3) := by decide +kernel
theorem dX12_liesAtMoment_13 : decode cX12_liesAtMoment 13 = .ok (.aload_n 0, 1) := by decide +kernel
theorem dX12_liesAtMoment_14 : decode cX12_liesAtMoment 14 = .ok (.getfield 22, 3) := by decide +kernel
theorem dX12_liesAtMoment_17 : decode cX12_liesAtMoment 17 = .ok (.iload_n 1, 1) := by decide +kernel
theorem dX12_liesAtMoment_18 : decode cX12_liesAtMoment 18 = .ok (.iaload, 1) := by decide +kernel
theorem dX12_liesAtMoment_19 : decode cX12_liesAtMoment 19 = .ok (.ifCond .lt 19, 3) := by decide +kernel
theorem dX12_liesAtMoment_22 : decode cX12_liesAtMoment 22 = .ok (.iload_n 2, 1) := by decide +kernel
theorem dX12_liesAtMoment_23 : decode cX12_liesAtMoment 23 = .ok (.bipush 24, 2) := by decide +kernel
theorem dX12_liesAtMoment_25 : decode cX12_liesAtMoment 25 = .ok (.aload_n 0, 1) := by decide +kernel
theorem dX12_liesAtMoment_26 : decode cX12_liesAtMoment 26 = .ok (.getfield 22, 3) := by decide +kernel
theorem dX12_liesAtMoment_29 : decode cX12_liesAtMoment 29 = .ok (.iload_n 1, 1) := by decide +kernel
theorem dX12_liesAtMoment_30 : decode cX12_liesAtMoment 30 = .ok (.iaload, 1) := by decide +kernel
theorem dX12_liesAtMoment_31 : decode cX12_liesAtMoment 31 = .ok (.imul, 1) := by decide +kernel
theorem dX12_liesAtMoment_32 : decode cX12_liesAtMoment 32 = .ok (.if_icmp .lt 6, 3) := by decide +kernel
theorem dX12_liesAtMoment_35 : decode cX12_liesAtMoment 35 = .ok (.bipush (-2), 2) := by decide +kernel
theorem dX12_liesAtMoment_37 : decode cX12_liesAtMoment 37 = .ok (.ireturn, 1) := by decide +kernel
theorem dX12_liesAtMoment_38 : decode cX12_liesAtMoment 38 = .ok (.aload_n 0, 1) := by decide +kernel
theorem dX12_liesAtMoment_39 : decode cX12_liesAtMoment 39 = .ok (.getfield 13, 3) := by decide +kernel
theorem dX12_liesAtMoment_42 : decode cX12_liesAtMoment 42 = .ok (.iload_n 1, 1) := by decide +kernel
theorem dX12_liesAtMoment_43 : decode cX12_liesAtMoment 43 = .ok (.iaload, 1) := by decide +kernel
theorem dX12_liesAtMoment_44 : decode cX12_liesAtMoment 44 = .ok (.iconst 3, 1) := by decide +kernel
theorem dX12_liesAtMoment_45 : decode cX12_liesAtMoment 45 = .ok (.if_icmp .ne 9, 3) := by decide +kernel
theorem dX12_liesAtMoment_48 : decode cX12_liesAtMoment 48 = .ok (.aload_n 0, 1) := by decide +kernel
theorem dX12_liesAtMoment_49 : decode cX12_liesAtMoment 49 = .ok (.iload_n 1, 1) := by decide +kernel
theorem dX12_liesAtMoment_50 : decode cX12_liesAtMoment 50 = .ok (.invokevirtual 242, 3) := by decide +kernel
theorem dX12_liesAtMoment_53 : decode cX12_liesAtMoment 53 = .ok (.ireturn, 1) := by decide +kernel
theorem dX12_liesAtMoment_54 : decode cX12_liesAtMoment 54 = .ok (.aload_n 0, 1) := by decide +kernel
theorem dX12_liesAtMoment_55 : decode cX12_liesAtMoment 55 = .ok (.getfield 236, 3) := by decide +kernel
theorem dX12_liesAtMoment_58 : decode cX12_liesAtMoment 58 = .ok (.iconst 1, 1) := by decide +kernel
theorem dX12_liesAtMoment_59 : decode cX12_liesAtMoment 59 = .ok (.isub, 1) := by decide +kernel
theorem dX12_liesAtMoment_60 : decode cX12_liesAtMoment 60 = .ok (.istore_n 3, 1) := by decide +kernel
theorem dX12_liesAtMoment_61 : decode cX12_liesAtMoment 61 = .ok (.iload_n 3, 1) := by decide +kernel
theorem dX12_liesAtMoment_62 : decode cX12_liesAtMoment 62 = .ok (.ifCond .lt 36, 3) := by decide +kernel
theorem dX12_liesAtMoment_65 : decode cX12_liesAtMoment 65 = .ok (.aload_n 0, 1) := by decide +kernel
theorem dX12_liesAtMoment_66 : decode cX12_liesAtMoment 66 = .ok (.getfield 37, 3) := by decide +kernel
theorem dX12_liesAtMoment_69 : decode cX12_liesAtMoment 69 = .ok (.iload_n 3, 1) := by decide +kernel
theorem dX12_liesAtMoment_70 : decode cX12_liesAtMoment 70 = .ok (.iaload, 1) := by decide +kernel
theorem dX12_liesAtMoment_71 : decode cX12_liesAtMoment 71 = .ok (.iload_n 1, 1) := by decide +kernel
theorem dX12_liesAtMoment_72 : decode cX12_liesAtMoment 72 = .ok (.if_icmp .ne 20, 3) := by decide +kernel
theorem dX12_liesAtMoment_75 : decode cX12_liesAtMoment 75 = .ok (.aload_n 0, 1) := by decide +kernel
theorem dX12_liesAtMoment_76 : decode cX12_liesAtMoment 76 = .ok (.getfield 43, 3) := by decide +kernel
theorem dX12_liesAtMoment_79 : decode cX12_liesAtMoment 79 = .ok (.iload_n 3, 1) := by decide +kernel
theorem dX12_liesAtMoment_80 : decode cX12_liesAtMoment 80 = .ok (.iaload, 1) := by decide +kernel
theorem dX12_liesAtMoment_81 : decode cX12_liesAtMoment 81 = .ok (.iload_n 2, 1) := by decide +kernel
theorem dX12_liesAtMoment_82 : decode cX12_liesAtMoment 82 = .ok (.if_icmp .gt 10, 3) := by decide +kernel
theorem dX12_liesAtMoment_85 : decode cX12_liesAtMoment 85 = .ok (.aload_n 0, 1) := by decide +kernel
theorem dX12_liesAtMoment_86 : decode cX12_liesAtMoment 86 = .ok (.getfield 40, 3) := by decide +kernel
theorem dX12_liesAtMoment_89 : decode cX12_liesAtMoment 89 = .ok (.iload_n 3, 1) := by decide +kernel
theorem dX12_liesAtMoment_90 : decode cX12_liesAtMoment 90 = .ok (.iaload, 1) := by decide +kernel
theorem dX12_liesAtMoment_91 : decode cX12_liesAtMoment 91 = .ok (.ireturn, 1) := by decide +kernel
theorem dX12_liesAtMoment_92 : decode cX12_liesAtMoment 92 = .ok (.iinc 3 (-1), 3) := by decide +kernel
theorem dX12_liesAtMoment_95 : decode cX12_liesAtMoment 95 = .ok (.goto (-34), 3) := by decide +kernel
theorem dX12_liesAtMoment_98 : decode cX12_liesAtMoment 98 = .ok (.aload_n 0, 1) := by decide +kernel
theorem dX12_liesAtMoment_99 : decode cX12_liesAtMoment 99 = .ok (.getfield 16, 3) := by decide +kernel
theorem dX12_liesAtMoment_102 : decode cX12_liesAtMoment 102 = .ok (.iload_n 1, 1) := by decide +kernel
theorem dX12_liesAtMoment_103 : decode cX12_liesAtMoment 103 = .ok (.iaload, 1) := by decide +kernel
theorem dX12_liesAtMoment_104 : decode cX12_liesAtMoment 104 = .ok (.ireturn, 1) := by decide +kernel
theorem dX12_liesAt_0 : decode cX12_liesAt 0 = .ok (.aload_n 0, 1) := by decide +kernel
theorem dX12_liesAt_1 : decode cX12_liesAt 1 = .ok (.iload_n 1, 1) := by decide +kernel
theorem dX12_liesAt_2 : decode cX12_liesAt 2 = .ok (.invokevirtual 224, 3) := by decide +kernel
theorem dX12_liesAt_5 : decode cX12_liesAt 5 = .ok (.ifCond .eq 20, 3) := by decide +kernel
theorem dX12_liesAt_8 : decode cX12_liesAt 8 = .ok (.iload_n 2, 1) := by decide +kernel
theorem dX12_liesAt_9 : decode cX12_liesAt 9 = .ok (.invokestatic 245, 3) := by decide +kernel
theorem dX12_liesAt_12 : decode cX12_liesAt 12 = .ok (.ifCond .eq 13, 3) := by decide +kernel
theorem dX12_liesAt_15 : decode cX12_liesAt 15 = .ok (.iload_n 3, 1) := by decide +kernel
theorem dX12_liesAt_16 : decode cX12_liesAt 16 = .ok (.iconst 0, 1) := by decide +kernel
theorem dX12_liesAt_17 : decode cX12_liesAt 17 = .ok (.bipush 23, 2) := by decide +kernel
theorem dX12_liesAt_19 : decode cX12_liesAt 19 = .ok (.invokestatic 195, 3) := by decide +kernel
theorem dX12_liesAt_22 : decode cX12_liesAt 22 = .ok (.ifCond .ne 7, 3) := by decide +kernel
theorem dX12_liesAt_25 : decode cX12_liesAt 25 = .ok (.iconst (-1), 1) := by decide +kernel
theorem dX12_liesAt_26 : decode cX12_liesAt 26 = .ok (.goto 14, 3) := by decide +kernel
theorem dX12_liesAt_29 : decode cX12_liesAt 29 = .ok (.aload_n 0, 1) := by decide +kernel
theorem dX12_liesAt_30 : decode cX12_liesAt 30 = .ok (.iload_n 1, 1) := by decide +kernel
theorem dX12_liesAt_31 : decode cX12_liesAt 31 = .ok (.bipush 24, 2) := by decide +kernel
theorem dX12_liesAt_33 : decode cX12_liesAt 33 = .ok (.iload_n 2, 1) := by decide +kernel
theorem dX12_liesAt_34 : decode cX12_liesAt 34 = .ok (.imul, 1) := by decide +kernel
theorem dX12_liesAt_35 : decode cX12_liesAt 35 = .ok (.iload_n 3, 1) := by decide +kernel
theorem dX12_liesAt_36 : decode cX12_liesAt 36 = .ok (.iadd, 1) := by decide +kernel
theorem dX12_liesAt_37 : decode cX12_liesAt 37 = .ok (.invokevirtual 248, 3) := by decide +kernel
theorem dX12_liesAt_40 : decode cX12_liesAt 40 = .ok (.ireturn, 1) := by decide +kernel
theorem dX12_move_0 : decode cX12_move 0 = .ok (.aload_n 0, 1) := by decide +kernel
theorem dX12_move_1 : decode cX12_move 1 = .ok (.iload_n 1, 1) := by decide +kernel
theorem dX12_move_2 : decode cX12_move 2 = .ok (.invokevirtual 217, 3) := by decide +kernel
theorem dX12_move_5 : decode cX12_move 5 = .ok (.ifCond .eq 30, 3) := by decide +kernel
theorem dX12_move_8 : decode cX12_move 8 = .ok (.aload_n 0, 1) := by decide +kernel
theorem dX12_move_9 : decode cX12_move 9 = .ok (.getfield 13, 3) := by decide +kernel
theorem dX12_move_12 : decode cX12_move 12 = .ok (.iload_n 1, 1) := by decide +kernel
theorem dX12_move_13 : decode cX12_move 13 = .ok (.iaload, 1) := by decide +kernel
theorem dX12_move_14 : decode cX12_move 14 = .ok (.iconst 4, 1) := by decide +kernel
theorem dX12_move_15 : decode cX12_move 15 = .ok (.if_icmp .ne 20, 3) := by decide +kernel
theorem dX12_move_18 : decode cX12_move 18 = .ok (.iload_n 2, 1) := by decide +kernel
theorem dX12_move_19 : decode cX12_move 19 = .ok (.invokestatic 206, 3) := by decide +kernel
theorem dX12_move_22 : decode cX12_move 22 = .ok (.ifCond .eq 13, 3) := by decide +kernel
theorem dX12_move_25 : decode cX12_move 25 = .ok (.iload_n 3, 1) := by decide +kernel
theorem dX12_move_26 : decode cX12_move 26 = .ok (.iconst 0, 1) := by decide +kernel
theorem dX12_move_27 : decode cX12_move 27 = .ok (.bipush 23, 2) := by decide +kernel
theorem dX12_move_29 : decode cX12_move 29 = .ok (.invokestatic 195, 3) := by decide +kernel
theorem dX12_move_32 : decode cX12_move 32 = .ok (.ifCond .ne 5, 3) := by decide +kernel
theorem dX12_move_35 : decode cX12_move 35 = .ok (.iconst (-1), 1) := by decide +kernel
theorem dX12_move_36 : decode cX12_move 36 = .ok (.ireturn, 1) := by decide +kernel
theorem dX12_move_37 : decode cX12_move 37 = .ok (.bipush 24, 2) := by decide +kernel
theorem dX12_move_39 : decode cX12_move 39 = .ok (.aload_n 0, 1) := by decide +kernel
theorem dX12_move_40 : decode cX12_move 40 = .ok (.getfield 203, 3) := by decide +kernel
theorem dX12_move_43 : decode cX12_move 43 = .ok (.imul, 1) := by decide +kernel
theorem dX12_move_44 : decode cX12_move 44 = .ok (.iload_n 3, 1) := by decide +kernel
theorem dX12_move_45 : decode cX12_move 45 = .ok (.iadd, 1) := by decide +kernel
theorem dX12_move_46 : decode cX12_move 46 = .ok (.istore 4, 2) := by decide +kernel
theorem dX12_move_48 : decode cX12_move 48 = .ok (.aload_n 0, 1) := by decide +kernel
theorem dX12_move_49 : decode cX12_move 49 = .ok (.getfield 22, 3) := by decide +kernel
theorem dX12_move_52 : decode cX12_move 52 = .ok (.iload_n 1, 1) := by decide +kernel
theorem dX12_move_53 : decode cX12_move 53 = .ok (.iaload, 1) := by decide +kernel
theorem dX12_move_54 : decode cX12_move 54 = .ok (.ifCond .lt 6, 3) := by decide +kernel
theorem dX12_move_57 : decode cX12_move 57 = .ok (.bipush (-5), 2) := by decide +kernel
theorem dX12_move_59 : decode cX12_move 59 = .ok (.ireturn, 1) := by decide +kernel
theorem dX12_move_60 : decode cX12_move 60 = .ok (.iconst 0, 1) := by decide +kernel
theorem dX12_move_61 : decode cX12_move 61 = .ok (.istore 5, 2) := by decide +kernel
theorem dX12_move_63 : decode cX12_move 63 = .ok (.iload 5, 2) := by decide +kernel
theorem dX12_move_65 : decode cX12_move 65 = .ok (.aload_n 0, 1) := by decide +kernel
theorem dX12_move_66 : decode cX12_move 66 = .ok (.getfield 236, 3) := by decide +kernel
theorem dX12_move_69 : decode cX12_move 69 = .ok (.if_icmp .ge 35, 3) := by decide +kernel
theorem dX12_move_72 : decode cX12_move 72 = .ok (.aload_n 0, 1) := by decide +kernel
theorem dX12_move_73 : decode cX12_move 73 = .ok (.getfield 37, 3) := by decide +kernel
theorem dX12_move_76 : decode cX12_move 76 = .ok (.iload 5, 2) := by decide +kernel
theorem dX12_move_78 : decode cX12_move 78 = .ok (.iaload, 1) := by decide +kernel
theorem dX12_move_79 : decode cX12_move 79 = .ok (.iload_n 1, 1) := by decide +kernel
theorem dX12_move_80 : decode cX12_move 80 = .ok (.if_icmp .ne 18, 3) := by decide +kernel
theorem dX12_move_83 : decode cX12_move 83 = .ok (.aload_n 0, 1) := by decide +kernel
theorem dX12_move_84 : decode cX12_move 84 = .ok (.getfield 43, 3) := by decide +kernel
theorem dX12_move_87 : decode cX12_move 87 = .ok (.iload 5, 2) := by decide +kernel
theorem dX12_move_89 : decode cX12_move 89 = .ok (.iaload, 1) := by decide +kernel
theorem dX12_move_90 : decode cX12_move 90 = .ok (.iload 4, 2) := by decide +kernel
theorem dX12_move_92 : decode cX12_move 92 = .ok (.if_icmp .lt 6, 3) := by decide +kernel
theorem dX12_move_95 : decode cX12_move 95 = .ok (.bipush (-5), 2) := by decide +kernel
theorem dX12_move_97 : decode cX12_move 97 = .ok (.ireturn, 1) := by decide +kernel
theorem dX12_move_98 : decode cX12_move 98 = .ok (.iinc 5 1, 3) := by decide +kernel
theorem dX12_move_101 : decode cX12_move 101 = .ok (.goto (-38), 3) := by decide +kernel
theorem dX12_move_104 : decode cX12_move 104 = .ok (.iconst 0, 1) := by decide +kernel
theorem dX12_move_105 : decode cX12_move 105 = .ok (.istore 5, 2) := by decide +kernel
theorem dX12_move_107 : decode cX12_move 107 = .ok (.iload 5, 2) := by decide +kernel
theorem dX12_move_109 : decode cX12_move 109 = .ok (.aload_n 0, 1) := by decide +kernel
theorem dX12_move_110 : decode cX12_move 110 = .ok (.getfield 252, 3) := by decide +kernel
theorem dX12_move_113 : decode cX12_move 113 = .ok (.if_icmp .ge 35, 3) := by decide +kernel
theorem dX12_move_116 : decode cX12_move 116 = .ok (.aload_n 0, 1) := by decide +kernel
theorem dX12_move_117 : decode cX12_move 117 = .ok (.getfield 49, 3) := by decide +kernel
theorem dX12_move_120 : decode cX12_move 120 = .ok (.iload 5, 2) := by decide +kernel
theorem dX12_move_122 : decode cX12_move 122 = .ok (.iaload, 1) := by decide +kernel
theorem dX12_move_123 : decode cX12_move 123 = .ok (.iload_n 1, 1) := by decide +kernel
theorem dX12_move_124 : decode cX12_move 124 = .ok (.if_icmp .ne 18, 3) := by decide +kernel
theorem dX12_move_127 : decode cX12_move 127 = .ok (.aload_n 0, 1) := by decide +kernel
theorem dX12_move_128 : decode cX12_move 128 = .ok (.getfield 52, 3) := by decide +kernel
theorem dX12_move_131 : decode cX12_move 131 = .ok (.iload 5, 2) := by decide +kernel
theorem dX12_move_133 : decode cX12_move 133 = .ok (.iaload, 1) := by decide +kernel
theorem dX12_move_134 : decode cX12_move 134 = .ok (.iload 4, 2) := by decide +kernel
theorem dX12_move_136 : decode cX12_move 136 = .ok (.if_icmp .lt 6, 3) := by decide +kernel
theorem dX12_move_139 : decode cX12_move 139 = .ok (.bipush (-5), 2) := by decide +kernel
theorem dX12_move_141 : decode cX12_move 141 = .ok (.ireturn, 1) := by decide +kernel
theorem dX12_move_142 : decode cX12_move 142 = .ok (.iinc 5 1, 3) := by decide +kernel
theorem dX12_move_145 : decode cX12_move 145 = .ok (.goto (-38), 3) := by decide +kernel
theorem dX12_move_148 : decode cX12_move 148 = .ok (.aload_n 0, 1) := by decide +kernel
theorem dX12_move_149 : decode cX12_move 149 = .ok (.getfield 236, 3) := by decide +kernel
theorem dX12_move_152 : decode cX12_move 152 = .ok (.sipush 200, 3) := by decide +kernel
theorem dX12_move_155 : decode cX12_move 155 = .ok (.if_icmp .ne 6, 3) := by decide +kernel
theorem dX12_move_158 : decode cX12_move 158 = .ok (.bipush (-3), 2) := by decide +kernel
theorem dX12_move_160 : decode cX12_move 160 = .ok (.ireturn, 1) := by decide +kernel
theorem dX12_move_161 : decode cX12_move 161 = .ok (.aload_n 0, 1) := by decide +kernel
theorem dX12_move_162 : decode cX12_move 162 = .ok (.getfield 37, 3) := by decide +kernel
theorem dX12_move_165 : decode cX12_move 165 = .ok (.aload_n 0, 1) := by decide +kernel
theorem dX12_move_166 : decode cX12_move 166 = .ok (.getfield 236, 3) := by decide +kernel
theorem dX12_move_169 : decode cX12_move 169 = .ok (.iload_n 1, 1) := by decide +kernel
theorem dX12_move_170 : decode cX12_move 170 = .ok (.iastore, 1) := by decide +kernel
theorem dX12_move_171 : decode cX12_move 171 = .ok (.aload_n 0, 1) := by decide +kernel
theorem dX12_move_172 : decode cX12_move 172 = .ok (.getfield 40, 3) := by decide +kernel
theorem dX12_move_175 : decode cX12_move 175 = .ok (.aload_n 0, 1) := by decide +kernel
theorem dX12_move_176 : decode cX12_move 176 = .ok (.getfield 236, 3) := by decide +kernel
theorem dX12_move_179 : decode cX12_move 179 = .ok (.iload_n 2, 1) := by decide +kernel
theorem dX12_move_180 : decode cX12_move 180 = .ok (.iastore, 1) := by decide +kernel
theorem dX12_move_181 : decode cX12_move 181 = .ok (.aload_n 0, 1) := by decide +kernel
theorem dX12_move_182 : decode cX12_move 182 = .ok (.getfield 43, 3) := by decide +kernel
theorem dX12_move_185 : decode cX12_move 185 = .ok (.aload_n 0, 1) := by decide +kernel
theorem dX12_move_186 : decode cX12_move 186 = .ok (.getfield 236, 3) := by decide +kernel
theorem dX12_move_189 : decode cX12_move 189 = .ok (.iload 4, 2) := by decide +kernel
theorem dX12_move_191 : decode cX12_move 191 = .ok (.iastore, 1) := by decide +kernel
theorem dX12_move_192 : decode cX12_move 192 = .ok (.aload_n 0, 1) := by decide +kernel
theorem dX12_move_193 : decode cX12_move 193 = .ok (.dup, 1) := by decide +kernel
theorem dX12_move_194 : decode cX12_move 194 = .ok (.getfield 236, 3) := by decide +kernel
theorem dX12_move_197 : decode cX12_move 197 = .ok (.iconst 1, 1) := by decide +kernel
theorem dX12_move_198 : decode cX12_move 198 = .ok (.iadd, 1) := by decide +kernel
theorem dX12_move_199 : decode cX12_move 199 = .ok (.putfield 236, 3) := by decide +kernel
theorem dX12_move_202 : decode cX12_move 202 = .ok (.iconst 1, 1) := by decide +kernel
theorem dX12_move_203 : decode cX12_move 203 = .ok (.ireturn, 1) := by decide +kernel
theorem dX12_down_0 : decode cX12_down 0 = .ok (.aload_n 0, 1) := by decide +kernel
theorem dX12_down_1 : decode cX12_down 1 = .ok (.iload_n 1, 1) := by decide +kernel
theorem dX12_down_2 : decode cX12_down 2 = .ok (.invokevirtual 224, 3) := by decide +kernel
theorem dX12_down_5 : decode cX12_down 5 = .ok (.ifCond .ne 5, 3) := by decide +kernel
theorem dX12_down_8 : decode cX12_down 8 = .ok (.iconst (-1), 1) := by decide +kernel
theorem dX12_down_9 : decode cX12_down 9 = .ok (.ireturn, 1) := by decide +kernel
theorem dX12_down_10 : decode cX12_down 10 = .ok (.aload_n 0, 1) := by decide +kernel
theorem dX12_down_11 : decode cX12_down 11 = .ok (.getfield 22, 3) := by decide +kernel
theorem dX12_down_14 : decode cX12_down 14 = .ok (.iload_n 1, 1) := by decide +kernel
theorem dX12_down_15 : decode cX12_down 15 = .ok (.iaload, 1) := by decide +kernel
theorem dX12_down_16 : decode cX12_down 16 = .ok (.ifCond .lt 6, 3) := by decide +kernel
theorem dX12_down_19 : decode cX12_down 19 = .ok (.bipush (-2), 2) := by decide +kernel
theorem dX12_down_21 : decode cX12_down 21 = .ok (.ireturn, 1) := by decide +kernel
theorem dX12_down_22 : decode cX12_down 22 = .ok (.aload_n 0, 1) := by decide +kernel
theorem dX12_down_23 : decode cX12_down 23 = .ok (.getfield 22, 3) := by decide +kernel
theorem dX12_down_26 : decode cX12_down 26 = .ok (.iload_n 1, 1) := by decide +kernel
theorem dX12_down_27 : decode cX12_down 27 = .ok (.aload_n 0, 1) := by decide +kernel
theorem dX12_down_28 : decode cX12_down 28 = .ok (.getfield 203, 3) := by decide +kernel
theorem dX12_down_31 : decode cX12_down 31 = .ok (.iastore, 1) := by decide +kernel
theorem dX12_down_32 : decode cX12_down 32 = .ok (.iconst 1, 1) := by decide +kernel
theorem dX12_down_33 : decode cX12_down 33 = .ok (.ireturn, 1) := by decide +kernel
theorem dX12_ownOf_0 : decode cX12_ownOf 0 = .ok (.iconst 0, 1) := by decide +kernel
theorem dX12_ownOf_1 : decode cX12_ownOf 1 = .ok (.istore_n 2, 1) := by decide +kernel
theorem dX12_ownOf_2 : decode cX12_ownOf 2 = .ok (.iconst 0, 1) := by decide +kernel
theorem dX12_ownOf_3 : decode cX12_ownOf 3 = .ok (.istore_n 3, 1) := by decide +kernel
theorem dX12_ownOf_4 : decode cX12_ownOf 4 = .ok (.iload_n 3, 1) := by decide +kernel
theorem dX12_ownOf_5 : decode cX12_ownOf 5 = .ok (.aload_n 0, 1) := by decide +kernel
theorem dX12_ownOf_6 : decode cX12_ownOf 6 = .ok (.getfield 214, 3) := by decide +kernel
theorem dX12_ownOf_9 : decode cX12_ownOf 9 = .ok (.if_icmp .ge 35, 3) := by decide +kernel
theorem dX12_ownOf_12 : decode cX12_ownOf 12 = .ok (.iload_n 2, 1) := by decide +kernel
theorem dX12_ownOf_13 : decode cX12_ownOf 13 = .ok (.aload_n 0, 1) := by decide +kernel
theorem dX12_ownOf_14 : decode cX12_ownOf 14 = .ok (.iload_n 3, 1) := by decide +kernel
theorem dX12_ownOf_15 : decode cX12_ownOf 15 = .ok (.invokevirtual 255, 3) := by decide +kernel
theorem dX12_ownOf_18 : decode cX12_ownOf 18 = .ok (.ifCond .eq 17, 3) := by decide +kernel
theorem dX12_ownOf_21 : decode cX12_ownOf 21 = .ok (.aload_n 0, 1) := by decide +kernel
theorem dX12_ownOf_22 : decode cX12_ownOf 22 = .ok (.getfield 25, 3) := by decide +kernel
theorem dX12_ownOf_25 : decode cX12_ownOf 25 = .ok (.iload_n 3, 1) := by decide +kernel
theorem dX12_ownOf_26 : decode cX12_ownOf 26 = .ok (.iaload, 1) := by decide +kernel
theorem dX12_ownOf_27 : decode cX12_ownOf 27 = .ok (.iload_n 1, 1) := by decide +kernel
theorem dX12_ownOf_28 : decode cX12_ownOf 28 = .ok (.if_icmp .ne 7, 3) := by decide +kernel
theorem dX12_ownOf_31 : decode cX12_ownOf 31 = .ok (.iconst 1, 1) := by decide +kernel
theorem dX12_ownOf_32 : decode cX12_ownOf 32 = .ok (.goto 4, 3) := by decide +kernel
theorem dX12_ownOf_35 : decode cX12_ownOf 35 = .ok (.iconst 0, 1) := by decide +kernel
theorem dX12_ownOf_36 : decode cX12_ownOf 36 = .ok (.iadd, 1) := by decide +kernel
theorem dX12_ownOf_37 : decode cX12_ownOf 37 = .ok (.istore_n 2, 1) := by decide +kernel
theorem dX12_ownOf_38 : decode cX12_ownOf 38 = .ok (.iinc 3 1, 3) := by decide +kernel
theorem dX12_ownOf_41 : decode cX12_ownOf 41 = .ok (.goto (-37), 3) := by decide +kernel
theorem dX12_ownOf_44 : decode cX12_ownOf 44 = .ok (.iload_n 2, 1) := by decide +kernel
theorem dX12_ownOf_45 : decode cX12_ownOf 45 = .ok (.ireturn, 1) := by decide +kernel
theorem dX12_ofBody_0 : decode cX12_ofBody 0 = .ok (.aload_n 0, 1) := by decide +kernel
theorem dX12_ofBody_1 : decode cX12_ofBody 1 = .ok (.iload_n 1, 1) := by decide +kernel
theorem dX12_ofBody_2 : decode cX12_ofBody 2 = .ok (.invokevirtual 217, 3) := by decide +kernel
theorem dX12_ofBody_5 : decode cX12_ofBody 5 = .ok (.ifCond .ne 6, 3) := by decide +kernel
theorem dX12_ofBody_8 : decode cX12_ofBody 8 = .ok (.ldc 210, 2) := by decide +kernel
theorem dX12_ofBody_10 : decode cX12_ofBody 10 = .ok (.ireturn, 1) := by decide +kernel
theorem dX12_ofBody_11 : decode cX12_ofBody 11 = .ok (.iload_n 2, 1) := by decide +kernel
theorem dX12_ofBody_12 : decode cX12_ofBody 12 = .ok (.ifCond .ne 10, 3) := by decide +kernel
theorem dX12_ofBody_15 : decode cX12_ofBody 15 = .ok (.aload_n 0, 1) := by decide +kernel
theorem dX12_ofBody_16 : decode cX12_ofBody 16 = .ok (.getfield 13, 3) := by decide +kernel
theorem dX12_ofBody_19 : decode cX12_ofBody 19 = .ok (.iload_n 1, 1) := by decide +kernel
theorem dX12_ofBody_20 : decode cX12_ofBody 20 = .ok (.iaload, 1) := by decide +kernel
theorem dX12_ofBody_21 : decode cX12_ofBody 21 = .ok (.ireturn, 1) := by decide +kernel
theorem dX12_ofBody_22 : decode cX12_ofBody 22 = .ok (.aload_n 0, 1) := by decide +kernel
theorem dX12_ofBody_23 : decode cX12_ofBody 23 = .ok (.getfield 13, 3) := by decide +kernel
theorem dX12_ofBody_26 : decode cX12_ofBody 26 = .ok (.iload_n 1, 1) := by decide +kernel
theorem dX12_ofBody_27 : decode cX12_ofBody 27 = .ok (.iaload, 1) := by decide +kernel
theorem dX12_ofBody_28 : decode cX12_ofBody 28 = .ok (.bipush 7, 2) := by decide +kernel
theorem dX12_ofBody_30 : decode cX12_ofBody 30 = .ok (.if_icmp .ne 61, 3) := by decide +kernel
theorem dX12_ofBody_33 : decode cX12_ofBody 33 = .ok (.iload_n 2, 1) := by decide +kernel
theorem dX12_ofBody_34 : decode cX12_ofBody 34 = .ok (.iconst 1, 1) := by decide +kernel
theorem dX12_ofBody_35 : decode cX12_ofBody 35 = .ok (.if_icmp .ne 12, 3) := by decide +kernel
theorem dX12_ofBody_38 : decode cX12_ofBody 38 = .ok (.aload_n 0, 1) := by decide +kernel
theorem dX12_ofBody_39 : decode cX12_ofBody 39 = .ok (.getfield 16, 3) := by decide +kernel
theorem dX12_ofBody_42 : decode cX12_ofBody 42 = .ok (.iload_n 1, 1) := by decide +kernel
theorem dX12_ofBody_43 : decode cX12_ofBody 43 = .ok (.iaload, 1) := by decide +kernel
theorem dX12_ofBody_44 : decode cX12_ofBody 44 = .ok (.goto 46, 3) := by decide +kernel
theorem dX12_ofBody_47 : decode cX12_ofBody 47 = .ok (.iload_n 2, 1) := by decide +kernel
theorem dX12_ofBody_48 : decode cX12_ofBody 48 = .ok (.iconst 2, 1) := by decide +kernel
theorem dX12_ofBody_49 : decode cX12_ofBody 49 = .ok (.if_icmp .ne 12, 3) := by decide +kernel
theorem dX12_ofBody_52 : decode cX12_ofBody 52 = .ok (.aload_n 0, 1) := by decide +kernel
theorem dX12_ofBody_53 : decode cX12_ofBody 53 = .ok (.getfield 19, 3) := by decide +kernel
theorem dX12_ofBody_56 : decode cX12_ofBody 56 = .ok (.iload_n 1, 1) := by decide +kernel
theorem dX12_ofBody_57 : decode cX12_ofBody 57 = .ok (.iaload, 1) := by decide +kernel
theorem dX12_ofBody_58 : decode cX12_ofBody 58 = .ok (.goto 32, 3) := by decide +kernel
theorem dX12_ofBody_61 : decode cX12_ofBody 61 = .ok (.iload_n 2, 1) := by decide +kernel
theorem dX12_ofBody_62 : decode cX12_ofBody 62 = .ok (.iconst 3, 1) := by decide +kernel
theorem dX12_ofBody_63 : decode cX12_ofBody 63 = .ok (.if_icmp .ne 12, 3) := by decide +kernel
theorem dX12_ofBody_66 : decode cX12_ofBody 66 = .ok (.aload_n 0, 1) := by decide +kernel
theorem dX12_ofBody_67 : decode cX12_ofBody 67 = .ok (.getfield 22, 3) := by decide +kernel
theorem dX12_ofBody_70 : decode cX12_ofBody 70 = .ok (.iload_n 1, 1) := by decide +kernel
theorem dX12_ofBody_71 : decode cX12_ofBody 71 = .ok (.iaload, 1) := by decide +kernel
theorem dX12_ofBody_72 : decode cX12_ofBody 72 = .ok (.goto 18, 3) := by decide +kernel
theorem dX12_ofBody_75 : decode cX12_ofBody 75 = .ok (.iload_n 2, 1) := by decide +kernel
theorem dX12_ofBody_76 : decode cX12_ofBody 76 = .ok (.iconst 4, 1) := by decide +kernel
theorem dX12_ofBody_77 : decode cX12_ofBody 77 = .ok (.if_icmp .ne 11, 3) := by decide +kernel
theorem dX12_ofBody_80 : decode cX12_ofBody 80 = .ok (.aload_n 0, 1) := by decide +kernel
theorem dX12_ofBody_81 : decode cX12_ofBody 81 = .ok (.iload_n 1, 1) := by decide +kernel
theorem dX12_ofBody_82 : decode cX12_ofBody 82 = .ok (.invokevirtual 258, 3) := by decide +kernel
theorem dX12_ofBody_85 : decode cX12_ofBody 85 = .ok (.goto 5, 3) := by decide +kernel
theorem dX12_ofBody_88 : decode cX12_ofBody 88 = .ok (.ldc 210, 2) := by decide +kernel
theorem dX12_ofBody_90 : decode cX12_ofBody 90 = .ok (.ireturn, 1) := by decide +kernel
theorem dX12_ofBody_91 : decode cX12_ofBody 91 = .ok (.aload_n 0, 1) := by decide +kernel
theorem dX12_ofBody_92 : decode cX12_ofBody 92 = .ok (.getfield 13, 3) := by decide +kernel
theorem dX12_ofBody_95 : decode cX12_ofBody 95 = .ok (.iload_n 1, 1) := by decide +kernel
theorem dX12_ofBody_96 : decode cX12_ofBody 96 = .ok (.iaload, 1) := by decide +kernel
theorem dX12_ofBody_97 : decode cX12_ofBody 97 = .ok (.bipush 6, 2) := by decide +kernel
theorem dX12_ofBody_99 : decode cX12_ofBody 99 = .ok (.if_icmp .ne 39, 3) := by decide +kernel
theorem dX12_ofBody_102 : decode cX12_ofBody 102 = .ok (.iload_n 2, 1) := by decide +kernel
theorem dX12_ofBody_103 : decode cX12_ofBody 103 = .ok (.iconst 1, 1) := by decide +kernel
theorem dX12_ofBody_104 : decode cX12_ofBody 104 = .ok (.if_icmp .ne 17, 3) := by decide +kernel
theorem dX12_ofBody_107 : decode cX12_ofBody 107 = .ok (.aload_n 0, 1) := by decide +kernel
theorem dX12_ofBody_108 : decode cX12_ofBody 108 = .ok (.iload_n 1, 1) := by decide +kernel
theorem dX12_ofBody_109 : decode cX12_ofBody 109 = .ok (.aload_n 0, 1) := by decide +kernel
theorem dX12_ofBody_110 : decode cX12_ofBody 110 = .ok (.getfield 121, 3) := by decide +kernel
theorem dX12_ofBody_113 : decode cX12_ofBody 113 = .ok (.iload_n 1, 1) := by decide +kernel
theorem dX12_ofBody_114 : decode cX12_ofBody 114 = .ok (.iaload, 1) := by decide +kernel
theorem dX12_ofBody_115 : decode cX12_ofBody 115 = .ok (.invokevirtual 261, 3) := by decide +kernel
theorem dX12_ofBody_118 : decode cX12_ofBody 118 = .ok (.goto 19, 3) := by decide +kernel
theorem dX12_ofBody_121 : decode cX12_ofBody 121 = .ok (.iload_n 2, 1) := by decide +kernel
theorem dX12_ofBody_122 : decode cX12_ofBody 122 = .ok (.iconst 2, 1) := by decide +kernel
theorem dX12_ofBody_123 : decode cX12_ofBody 123 = .ok (.if_icmp .ne 12, 3) := by decide +kernel
theorem dX12_ofBody_126 : decode cX12_ofBody 126 = .ok (.aload_n 0, 1) := by decide +kernel
theorem dX12_ofBody_127 : decode cX12_ofBody 127 = .ok (.getfield 121, 3) := by decide +kernel
theorem dX12_ofBody_130 : decode cX12_ofBody 130 = .ok (.iload_n 1, 1) := by decide +kernel
theorem dX12_ofBody_131 : decode cX12_ofBody 131 = .ok (.iaload, 1) := by decide +kernel
theorem dX12_ofBody_132 : decode cX12_ofBody 132 = .ok (.goto 5, 3) := by decide +kernel
theorem dX12_ofBody_135 : decode cX12_ofBody 135 = .ok (.ldc 210, 2) := by decide +kernel
theorem dX12_ofBody_137 : decode cX12_ofBody 137 = .ok (.ireturn, 1) := by decide +kernel
theorem dX12_ofBody_138 : decode cX12_ofBody 138 = .ok (.aload_n 0, 1) := by decide +kernel
theorem dX12_ofBody_139 : decode cX12_ofBody 139 = .ok (.iload_n 1, 1) := by decide +kernel
theorem dX12_ofBody_140 : decode cX12_ofBody 140 = .ok (.invokevirtual 224, 3) := by decide +kernel
theorem dX12_ofBody_143 : decode cX12_ofBody 143 = .ok (.ifCond .ne 6, 3) := by decide +kernel
theorem dX12_ofBody_146 : decode cX12_ofBody 146 = .ok (.ldc 210, 2) := by decide +kernel
theorem dX12_ofBody_148 : decode cX12_ofBody 148 = .ok (.ireturn, 1) := by decide +kernel
theorem dX12_ofBody_149 : decode cX12_ofBody 149 = .ok (.iload_n 2, 1) := by decide +kernel
theorem dX12_ofBody_150 : decode cX12_ofBody 150 = .ok (.tableswitch 87 1 7 #[42, 49, 55, 62, 69, 75, 81], 42) := by decide +kernel
theorem dX12_ofBody_192 : decode cX12_ofBody 192 = .ok (.aload_n 0, 1) := by decide +kernel
theorem dX12_ofBody_193 : decode cX12_ofBody 193 = .ok (.getfield 25, 3) := by decide +kernel
theorem dX12_ofBody_196 : decode cX12_ofBody 196 = .ok (.iload_n 1, 1) := by decide +kernel
theorem dX12_ofBody_197 : decode cX12_ofBody 197 = .ok (.iaload, 1) := by decide +kernel
theorem dX12_ofBody_198 : decode cX12_ofBody 198 = .ok (.ireturn, 1) := by decide +kernel
theorem dX12_ofBody_199 : decode cX12_ofBody 199 = .ok (.aload_n 0, 1) := by decide +kernel
theorem dX12_ofBody_200 : decode cX12_ofBody 200 = .ok (.iload_n 1, 1) := by decide +kernel
theorem dX12_ofBody_201 : decode cX12_ofBody 201 = .ok (.invokevirtual 239, 3) := by decide +kernel
theorem dX12_ofBody_204 : decode cX12_ofBody 204 = .ok (.ireturn, 1) := by decide +kernel
theorem dX12_ofBody_205 : decode cX12_ofBody 205 = .ok (.aload_n 0, 1) := by decide +kernel
theorem dX12_ofBody_206 : decode cX12_ofBody 206 = .ok (.getfield 19, 3) := by decide +kernel
theorem dX12_ofBody_209 : decode cX12_ofBody 209 = .ok (.iload_n 1, 1) := by decide +kernel
theorem dX12_ofBody_210 : decode cX12_ofBody 210 = .ok (.iaload, 1) := by decide +kernel
theorem dX12_ofBody_211 : decode cX12_ofBody 211 = .ok (.ireturn, 1) := by decide +kernel
theorem dX12_ofBody_212 : decode cX12_ofBody 212 = .ok (.aload_n 0, 1) := by decide +kernel
theorem dX12_ofBody_213 : decode cX12_ofBody 213 = .ok (.getfield 22, 3) := by decide +kernel
theorem dX12_ofBody_216 : decode cX12_ofBody 216 = .ok (.iload_n 1, 1) := by decide +kernel
theorem dX12_ofBody_217 : decode cX12_ofBody 217 = .ok (.iaload, 1) := by decide +kernel
theorem dX12_ofBody_218 : decode cX12_ofBody 218 = .ok (.ireturn, 1) := by decide +kernel
theorem dX12_ofBody_219 : decode cX12_ofBody 219 = .ok (.aload_n 0, 1) := by decide +kernel
theorem dX12_ofBody_220 : decode cX12_ofBody 220 = .ok (.iload_n 1, 1) := by decide +kernel
theorem dX12_ofBody_221 : decode cX12_ofBody 221 = .ok (.invokevirtual 242, 3) := by decide +kernel
theorem dX12_ofBody_224 : decode cX12_ofBody 224 = .ok (.ireturn, 1) := by decide +kernel
theorem dX12_ofBody_225 : decode cX12_ofBody 225 = .ok (.aload_n 0, 1) := by decide +kernel
theorem dX12_ofBody_226 : decode cX12_ofBody 226 = .ok (.iload_n 1, 1) := by decide +kernel
theorem dX12_ofBody_227 : decode cX12_ofBody 227 = .ok (.invokevirtual 264, 3) := by decide +kernel
theorem dX12_ofBody_230 : decode cX12_ofBody 230 = .ok (.ireturn, 1) := by decide +kernel
theorem dX12_ofBody_231 : decode cX12_ofBody 231 = .ok (.aload_n 0, 1) := by decide +kernel
theorem dX12_ofBody_232 : decode cX12_ofBody 232 = .ok (.iload_n 1, 1) := by decide +kernel
theorem dX12_ofBody_233 : decode cX12_ofBody 233 = .ok (.invokevirtual 267, 3) := by decide +kernel
theorem dX12_ofBody_236 : decode cX12_ofBody 236 = .ok (.ireturn, 1) := by decide +kernel
theorem dX12_ofBody_237 : decode cX12_ofBody 237 = .ok (.ldc 210, 2) := by decide +kernel
theorem dX12_ofBody_239 : decode cX12_ofBody 239 = .ok (.ireturn, 1) := by decide +kernel
theorem dX12_isBehind_0 : decode cX12_isBehind 0 = .ok (.aload_n 0, 1) := by decide +kernel
theorem dX12_isBehind_1 : decode cX12_isBehind 1 = .ok (.getfield 52, 3) := by decide +kernel
theorem dX12_isBehind_4 : decode cX12_isBehind 4 = .ok (.iload_n 1, 1) := by decide +kernel
theorem dX12_isBehind_5 : decode cX12_isBehind 5 = .ok (.iaload, 1) := by decide +kernel
theorem dX12_isBehind_6 : decode cX12_isBehind 6 = .ok (.aload_n 0, 1) := by decide +kernel
theorem dX12_isBehind_7 : decode cX12_isBehind 7 = .ok (.getfield 52, 3) := by decide +kernel
theorem dX12_isBehind_10 : decode cX12_isBehind 10 = .ok (.iload_n 2, 1) := by decide +kernel
theorem dX12_isBehind_11 : decode cX12_isBehind 11 = .ok (.iaload, 1) := by decide +kernel
theorem dX12_isBehind_12 : decode cX12_isBehind 12 = .ok (.if_icmp .eq 26, 3) := by decide +kernel
theorem dX12_isBehind_15 : decode cX12_isBehind 15 = .ok (.aload_n 0, 1) := by decide +kernel
theorem dX12_isBehind_16 : decode cX12_isBehind 16 = .ok (.getfield 52, 3) := by decide +kernel
theorem dX12_isBehind_19 : decode cX12_isBehind 19 = .ok (.iload_n 1, 1) := by decide +kernel
theorem dX12_isBehind_20 : decode cX12_isBehind 20 = .ok (.iaload, 1) := by decide +kernel
theorem dX12_isBehind_21 : decode cX12_isBehind 21 = .ok (.aload_n 0, 1) := by decide +kernel
theorem dX12_isBehind_22 : decode cX12_isBehind 22 = .ok (.getfield 52, 3) := by decide +kernel
theorem dX12_isBehind_25 : decode cX12_isBehind 25 = .ok (.iload_n 2, 1) := by decide +kernel
theorem dX12_isBehind_26 : decode cX12_isBehind 26 = .ok (.iaload, 1) := by decide +kernel
theorem dX12_isBehind_27 : decode cX12_isBehind 27 = .ok (.if_icmp .le 7, 3) := by decide +kernel
theorem dX12_isBehind_30 : decode cX12_isBehind 30 = .ok (.iconst 1, 1) := by decide +kernel
theorem dX12_isBehind_31 : decode cX12_isBehind 31 = .ok (.goto 17, 3) := by decide +kernel
theorem dX12_isBehind_34 : decode cX12_isBehind 34 = .ok (.iconst 0, 1) := by decide +kernel
theorem dX12_isBehind_35 : decode cX12_isBehind 35 = .ok (.goto 13, 3) := by decide +kernel
theorem dX12_isBehind_38 : decode cX12_isBehind 38 = .ok (.iload_n 1, 1) := by decide +kernel
theorem dX12_isBehind_39 : decode cX12_isBehind 39 = .ok (.iload_n 2, 1) := by decide +kernel
theorem dX12_isBehind_40 : decode cX12_isBehind 40 = .ok (.if_icmp .le 7, 3) := by decide +kernel
theorem dX12_isBehind_43 : decode cX12_isBehind 43 = .ok (.iconst 1, 1) := by decide +kernel
theorem dX12_isBehind_44 : decode cX12_isBehind 44 = .ok (.goto 4, 3) := by decide +kernel
theorem dX12_isBehind_47 : decode cX12_isBehind 47 = .ok (.iconst 0, 1) := by decide +kernel
theorem dX12_isBehind_48 : decode cX12_isBehind 48 = .ok (.ireturn, 1) := by decide +kernel
theorem dX12_findsOf_0 : decode cX12_findsOf 0 = .ok (.iconst 0, 1) := by decide +kernel
theorem dX12_findsOf_1 : decode cX12_findsOf 1 = .ok (.istore_n 2, 1) := by decide +kernel
theorem dX12_findsOf_2 : decode cX12_findsOf 2 = .ok (.iconst 0, 1) := by decide +kernel
theorem dX12_findsOf_3 : decode cX12_findsOf 3 = .ok (.istore_n 3, 1) := by decide +kernel
theorem dX12_findsOf_4 : decode cX12_findsOf 4 = .ok (.iload_n 3, 1) := by decide +kernel
theorem dX12_findsOf_5 : decode cX12_findsOf 5 = .ok (.aload_n 0, 1) := by decide +kernel
theorem dX12_findsOf_6 : decode cX12_findsOf 6 = .ok (.getfield 252, 3) := by decide +kernel
theorem dX12_findsOf_9 : decode cX12_findsOf 9 = .ok (.if_icmp .ge 36, 3) := by decide +kernel
theorem dX12_findsOf_12 : decode cX12_findsOf 12 = .ok (.iload_n 2, 1) := by decide +kernel
theorem dX12_findsOf_13 : decode cX12_findsOf 13 = .ok (.aload_n 0, 1) := by decide +kernel
theorem dX12_findsOf_14 : decode cX12_findsOf 14 = .ok (.getfield 49, 3) := by decide +kernel
theorem dX12_findsOf_17 : decode cX12_findsOf 17 = .ok (.iload_n 3, 1) := by decide +kernel
theorem dX12_findsOf_18 : decode cX12_findsOf 18 = .ok (.iaload, 1) := by decide +kernel
theorem dX12_findsOf_19 : decode cX12_findsOf 19 = .ok (.iload_n 1, 1) := by decide +kernel
theorem dX12_findsOf_20 : decode cX12_findsOf 20 = .ok (.if_icmp .ne 16, 3) := by decide +kernel
theorem dX12_findsOf_23 : decode cX12_findsOf 23 = .ok (.aload_n 0, 1) := by decide +kernel
theorem dX12_findsOf_24 : decode cX12_findsOf 24 = .ok (.getfield 55, 3) := by decide +kernel
theorem dX12_findsOf_27 : decode cX12_findsOf 27 = .ok (.iload_n 3, 1) := by decide +kernel
theorem dX12_findsOf_28 : decode cX12_findsOf 28 = .ok (.baload, 1) := by decide +kernel
theorem dX12_findsOf_29 : decode cX12_findsOf 29 = .ok (.ifCond .eq 7, 3) := by decide +kernel
theorem dX12_findsOf_32 : decode cX12_findsOf 32 = .ok (.iconst 1, 1) := by decide +kernel
theorem dX12_findsOf_33 : decode cX12_findsOf 33 = .ok (.goto 4, 3) := by decide +kernel
theorem dX12_findsOf_36 : decode cX12_findsOf 36 = .ok (.iconst 0, 1) := by decide +kernel
theorem dX12_findsOf_37 : decode cX12_findsOf 37 = .ok (.iadd, 1) := by decide +kernel
theorem dX12_findsOf_38 : decode cX12_findsOf 38 = .ok (.istore_n 2, 1) := by decide +kernel
theorem dX12_findsOf_39 : decode cX12_findsOf 39 = .ok (.iinc 3 1, 3) := by decide +kernel
theorem dX12_findsOf_42 : decode cX12_findsOf 42 = .ok (.goto (-38), 3) := by decide +kernel
theorem dX12_findsOf_45 : decode cX12_findsOf 45 = .ok (.iload_n 2, 1) := by decide +kernel
theorem dX12_findsOf_46 : decode cX12_findsOf 46 = .ok (.ireturn, 1) := by decide +kernel
theorem dX12_latestFound_0 : decode cX12_latestFound 0 = .ok (.iconst (-1), 1) := by decide +kernel
theorem dX12_latestFound_1 : decode cX12_latestFound 1 = .ok (.istore_n 2, 1) := by decide +kernel
theorem dX12_latestFound_2 : decode cX12_latestFound 2 = .ok (.iconst 0, 1) := by decide +kernel
theorem dX12_latestFound_3 : decode cX12_latestFound 3 = .ok (.istore_n 3, 1) := by decide +kernel
theorem dX12_latestFound_4 : decode cX12_latestFound 4 = .ok (.iload_n 3, 1) := by decide +kernel
theorem dX12_latestFound_5 : decode cX12_latestFound 5 = .ok (.aload_n 0, 1) := by decide +kernel
theorem dX12_latestFound_6 : decode cX12_latestFound 6 = .ok (.getfield 252, 3) := by decide +kernel
theorem dX12_latestFound_9 : decode cX12_latestFound 9 = .ok (.if_icmp .ge 43, 3) := by decide +kernel
theorem dX12_latestFound_12 : decode cX12_latestFound 12 = .ok (.aload_n 0, 1) := by decide +kernel
theorem dX12_latestFound_13 : decode cX12_latestFound 13 = .ok (.getfield 49, 3) := by decide +kernel
theorem dX12_latestFound_16 : decode cX12_latestFound 16 = .ok (.iload_n 3, 1) := by decide +kernel
theorem dX12_latestFound_17 : decode cX12_latestFound 17 = .ok (.iaload, 1) := by decide +kernel
theorem dX12_latestFound_18 : decode cX12_latestFound 18 = .ok (.iload_n 1, 1) := by decide +kernel
theorem dX12_latestFound_19 : decode cX12_latestFound 19 = .ok (.if_icmp .ne 27, 3) := by decide +kernel
theorem dX12_latestFound_22 : decode cX12_latestFound 22 = .ok (.aload_n 0, 1) := by decide +kernel
theorem dX12_latestFound_23 : decode cX12_latestFound 23 = .ok (.getfield 55, 3) := by decide +kernel
theorem dX12_latestFound_26 : decode cX12_latestFound 26 = .ok (.iload_n 3, 1) := by decide +kernel
theorem dX12_latestFound_27 : decode cX12_latestFound 27 = .ok (.baload, 1) := by decide +kernel
theorem dX12_latestFound_28 : decode cX12_latestFound 28 = .ok (.ifCond .eq 18, 3) := by decide +kernel
theorem dX12_latestFound_31 : decode cX12_latestFound 31 = .ok (.iload_n 2, 1) := by decide +kernel
theorem dX12_latestFound_32 : decode cX12_latestFound 32 = .ok (.ifCond .lt 12, 3) := by decide +kernel
theorem dX12_latestFound_35 : decode cX12_latestFound 35 = .ok (.aload_n 0, 1) := by decide +kernel
theorem dX12_latestFound_36 : decode cX12_latestFound 36 = .ok (.iload_n 3, 1) := by decide +kernel
theorem dX12_latestFound_37 : decode cX12_latestFound 37 = .ok (.iload_n 2, 1) := by decide +kernel
theorem dX12_latestFound_38 : decode cX12_latestFound 38 = .ok (.invokevirtual 270, 3) := by decide +kernel
theorem dX12_latestFound_41 : decode cX12_latestFound 41 = .ok (.ifCond .eq 5, 3) := by decide +kernel
theorem dX12_latestFound_44 : decode cX12_latestFound 44 = .ok (.iload_n 3, 1) := by decide +kernel
theorem dX12_latestFound_45 : decode cX12_latestFound 45 = .ok (.istore_n 2, 1) := by decide +kernel
theorem dX12_latestFound_46 : decode cX12_latestFound 46 = .ok (.iinc 3 1, 3) := by decide +kernel
theorem dX12_latestFound_49 : decode cX12_latestFound 49 = .ok (.goto (-45), 3) := by decide +kernel
theorem dX12_latestFound_52 : decode cX12_latestFound 52 = .ok (.iload_n 2, 1) := by decide +kernel
theorem dX12_latestFound_53 : decode cX12_latestFound 53 = .ok (.ireturn, 1) := by decide +kernel
theorem dX12_missesOf_0 : decode cX12_missesOf 0 = .ok (.aload_n 0, 1) := by decide +kernel
theorem dX12_missesOf_1 : decode cX12_missesOf 1 = .ok (.iload_n 1, 1) := by decide +kernel
theorem dX12_missesOf_2 : decode cX12_missesOf 2 = .ok (.invokevirtual 273, 3) := by decide +kernel
theorem dX12_missesOf_5 : decode cX12_missesOf 5 = .ok (.istore_n 2, 1) := by decide +kernel
theorem dX12_missesOf_6 : decode cX12_missesOf 6 = .ok (.iconst 0, 1) := by decide +kernel
theorem dX12_missesOf_7 : decode cX12_missesOf 7 = .ok (.istore_n 3, 1) := by decide +kernel
theorem dX12_missesOf_8 : decode cX12_missesOf 8 = .ok (.iconst 0, 1) := by decide +kernel
theorem dX12_missesOf_9 : decode cX12_missesOf 9 = .ok (.istore 4, 2) := by decide +kernel
theorem dX12_missesOf_11 : decode cX12_missesOf 11 = .ok (.iload 4, 2) := by decide +kernel
theorem dX12_missesOf_13 : decode cX12_missesOf 13 = .ok (.aload_n 0, 1) := by decide +kernel
theorem dX12_missesOf_14 : decode cX12_missesOf 14 = .ok (.getfield 252, 3) := by decide +kernel
theorem dX12_missesOf_17 : decode cX12_missesOf 17 = .ok (.if_icmp .ge 52, 3) := by decide +kernel
theorem dX12_missesOf_20 : decode cX12_missesOf 20 = .ok (.iload_n 3, 1) := by decide +kernel
theorem dX12_missesOf_21 : decode cX12_missesOf 21 = .ok (.aload_n 0, 1) := by decide +kernel
theorem dX12_missesOf_22 : decode cX12_missesOf 22 = .ok (.getfield 49, 3) := by decide +kernel
theorem dX12_missesOf_25 : decode cX12_missesOf 25 = .ok (.iload 4, 2) := by decide +kernel
theorem dX12_missesOf_27 : decode cX12_missesOf 27 = .ok (.iaload, 1) := by decide +kernel
theorem dX12_missesOf_28 : decode cX12_missesOf 28 = .ok (.iload_n 1, 1) := by decide +kernel
theorem dX12_missesOf_29 : decode cX12_missesOf 29 = .ok (.if_icmp .ne 31, 3) := by decide +kernel
theorem dX12_missesOf_32 : decode cX12_missesOf 32 = .ok (.aload_n 0, 1) := by decide +kernel
theorem dX12_missesOf_33 : decode cX12_missesOf 33 = .ok (.getfield 55, 3) := by decide +kernel
theorem dX12_missesOf_36 : decode cX12_missesOf 36 = .ok (.iload 4, 2) := by decide +kernel
theorem dX12_missesOf_38 : decode cX12_missesOf 38 = .ok (.baload, 1) := by decide +kernel
theorem dX12_missesOf_39 : decode cX12_missesOf 39 = .ok (.ifCond .ne 21, 3) := by decide +kernel
theorem dX12_missesOf_42 : decode cX12_missesOf 42 = .ok (.iload_n 2, 1) := by decide +kernel
theorem dX12_missesOf_43 : decode cX12_missesOf 43 = .ok (.ifCond .lt 13, 3) := by decide +kernel
theorem dX12_missesOf_46 : decode cX12_missesOf 46 = .ok (.aload_n 0, 1) := by decide +kernel
theorem dX12_missesOf_47 : decode cX12_missesOf 47 = .ok (.iload 4, 2) := by decide +kernel
theorem dX12_missesOf_49 : decode cX12_missesOf 49 = .ok (.iload_n 2, 1) := by decide +kernel
theorem dX12_missesOf_50 : decode cX12_missesOf 50 = .ok (.invokevirtual 270, 3) := by decide +kernel
theorem dX12_missesOf_53 : decode cX12_missesOf 53 = .ok (.ifCond .eq 7, 3) := by decide +kernel
theorem dX12_missesOf_56 : decode cX12_missesOf 56 = .ok (.iconst 1, 1) := by decide +kernel
theorem dX12_missesOf_57 : decode cX12_missesOf 57 = .ok (.goto 4, 3) := by decide +kernel
theorem dX12_missesOf_60 : decode cX12_missesOf 60 = .ok (.iconst 0, 1) := by decide +kernel
theorem dX12_missesOf_61 : decode cX12_missesOf 61 = .ok (.iadd, 1) := by decide +kernel
theorem dX12_missesOf_62 : decode cX12_missesOf 62 = .ok (.istore_n 3, 1) := by decide +kernel
theorem dX12_missesOf_63 : decode cX12_missesOf 63 = .ok (.iinc 4 1, 3) := by decide +kernel
theorem dX12_missesOf_66 : decode cX12_missesOf 66 = .ok (.goto (-55), 3) := by decide +kernel
theorem dX12_missesOf_69 : decode cX12_missesOf 69 = .ok (.iload_n 3, 1) := by decide +kernel
theorem dX12_missesOf_70 : decode cX12_missesOf 70 = .ok (.ireturn, 1) := by decide +kernel
theorem dX12_log_0 : decode cX12_log 0 = .ok (.aload_n 0, 1) := by decide +kernel
theorem dX12_log_1 : decode cX12_log 1 = .ok (.iload_n 1, 1) := by decide +kernel
theorem dX12_log_2 : decode cX12_log 2 = .ok (.invokevirtual 230, 3) := by decide +kernel
theorem dX12_log_5 : decode cX12_log 5 = .ok (.ifCond .eq 41, 3) := by decide +kernel
theorem dX12_log_8 : decode cX12_log 8 = .ok (.aload_n 0, 1) := by decide +kernel
theorem dX12_log_9 : decode cX12_log 9 = .ok (.iload_n 2, 1) := by decide +kernel
theorem dX12_log_10 : decode cX12_log 10 = .ok (.invokevirtual 224, 3) := by decide +kernel
theorem dX12_log_13 : decode cX12_log 13 = .ok (.ifCond .eq 33, 3) := by decide +kernel
theorem dX12_log_16 : decode cX12_log 16 = .ok (.iload_n 3, 1) := by decide +kernel
theorem dX12_log_17 : decode cX12_log 17 = .ok (.iconst 0, 1) := by decide +kernel
theorem dX12_log_18 : decode cX12_log 18 = .ok (.bipush 24, 2) := by decide +kernel
theorem dX12_log_20 : decode cX12_log 20 = .ok (.aload_n 0, 1) := by decide +kernel
theorem dX12_log_21 : decode cX12_log 21 = .ok (.getfield 203, 3) := by decide +kernel
theorem dX12_log_24 : decode cX12_log 24 = .ok (.imul, 1) := by decide +kernel
theorem dX12_log_25 : decode cX12_log 25 = .ok (.bipush 24, 2) := by decide +kernel
theorem dX12_log_27 : decode cX12_log 27 = .ok (.iadd, 1) := by decide +kernel
theorem dX12_log_28 : decode cX12_log 28 = .ok (.iconst 1, 1) := by decide +kernel
theorem dX12_log_29 : decode cX12_log 29 = .ok (.isub, 1) := by decide +kernel
theorem dX12_log_30 : decode cX12_log 30 = .ok (.invokestatic 195, 3) := by decide +kernel
theorem dX12_log_33 : decode cX12_log 33 = .ok (.ifCond .eq 13, 3) := by decide +kernel
theorem dX12_log_36 : decode cX12_log 36 = .ok (.iload 4, 2) := by decide +kernel
theorem dX12_log_38 : decode cX12_log 38 = .ok (.iconst 0, 1) := by decide +kernel
theorem dX12_log_39 : decode cX12_log 39 = .ok (.iconst 1, 1) := by decide +kernel
theorem dX12_log_40 : decode cX12_log 40 = .ok (.invokestatic 195, 3) := by decide +kernel
theorem dX12_log_43 : decode cX12_log 43 = .ok (.ifCond .ne 5, 3) := by decide +kernel
theorem dX12_log_46 : decode cX12_log 46 = .ok (.iconst (-1), 1) := by decide +kernel
theorem dX12_log_47 : decode cX12_log 47 = .ok (.ireturn, 1) := by decide +kernel
theorem dX12_log_48 : decode cX12_log 48 = .ok (.aload_n 0, 1) := by decide +kernel
theorem dX12_log_49 : decode cX12_log 49 = .ok (.getfield 252, 3) := by decide +kernel
theorem dX12_log_52 : decode cX12_log 52 = .ok (.sipush 300, 3) := by decide +kernel
theorem dX12_log_55 : decode cX12_log 55 = .ok (.if_icmp .ne 6, 3) := by decide +kernel
theorem dX12_log_58 : decode cX12_log 58 = .ok (.bipush (-3), 2) := by decide +kernel
theorem dX12_log_60 : decode cX12_log 60 = .ok (.ireturn, 1) := by decide +kernel
theorem dX12_log_61 : decode cX12_log 61 = .ok (.aload_n 0, 1) := by decide +kernel
theorem dX12_log_62 : decode cX12_log 62 = .ok (.getfield 46, 3) := by decide +kernel
theorem dX12_log_65 : decode cX12_log 65 = .ok (.aload_n 0, 1) := by decide +kernel
theorem dX12_log_66 : decode cX12_log 66 = .ok (.getfield 252, 3) := by decide +kernel
theorem dX12_log_69 : decode cX12_log 69 = .ok (.iload_n 1, 1) := by decide +kernel
theorem dX12_log_70 : decode cX12_log 70 = .ok (.iastore, 1) := by decide +kernel
theorem dX12_log_71 : decode cX12_log 71 = .ok (.aload_n 0, 1) := by decide +kernel
theorem dX12_log_72 : decode cX12_log 72 = .ok (.getfield 49, 3) := by decide +kernel
theorem dX12_log_75 : decode cX12_log 75 = .ok (.aload_n 0, 1) := by decide +kernel
theorem dX12_log_76 : decode cX12_log 76 = .ok (.getfield 252, 3) := by decide +kernel
theorem dX12_log_79 : decode cX12_log 79 = .ok (.iload_n 2, 1) := by decide +kernel
theorem dX12_log_80 : decode cX12_log 80 = .ok (.iastore, 1) := by decide +kernel
theorem dX12_log_81 : decode cX12_log 81 = .ok (.aload_n 0, 1) := by decide +kernel
theorem dX12_log_82 : decode cX12_log 82 = .ok (.getfield 52, 3) := by decide +kernel
theorem dX12_log_85 : decode cX12_log 85 = .ok (.aload_n 0, 1) := by decide +kernel
theorem dX12_log_86 : decode cX12_log 86 = .ok (.getfield 252, 3) := by decide +kernel
theorem dX12_log_89 : decode cX12_log 89 = .ok (.iload_n 3, 1) := by decide +kernel
theorem dX12_log_90 : decode cX12_log 90 = .ok (.iastore, 1) := by decide +kernel
theorem dX12_log_91 : decode cX12_log 91 = .ok (.aload_n 0, 1) := by decide +kernel
theorem dX12_log_92 : decode cX12_log 92 = .ok (.getfield 55, 3) := by decide +kernel
theorem dX12_log_95 : decode cX12_log 95 = .ok (.aload_n 0, 1) := by decide +kernel
theorem dX12_log_96 : decode cX12_log 96 = .ok (.getfield 252, 3) := by decide +kernel
theorem dX12_log_99 : decode cX12_log 99 = .ok (.iload 4, 2) := by decide +kernel
theorem dX12_log_101 : decode cX12_log 101 = .ok (.iconst 1, 1) := by decide +kernel
theorem dX12_log_102 : decode cX12_log 102 = .ok (.if_icmp .ne 7, 3) := by decide +kernel
theorem dX12_log_105 : decode cX12_log 105 = .ok (.iconst 1, 1) := by decide +kernel
theorem dX12_log_106 : decode cX12_log 106 = .ok (.goto 4, 3) := by decide +kernel
theorem dX12_log_109 : decode cX12_log 109 = .ok (.iconst 0, 1) := by decide +kernel
theorem dX12_log_110 : decode cX12_log 110 = .ok (.bastore, 1) := by decide +kernel
theorem dX12_log_111 : decode cX12_log 111 = .ok (.aload_n 0, 1) := by decide +kernel
theorem dX12_log_112 : decode cX12_log 112 = .ok (.dup, 1) := by decide +kernel
theorem dX12_log_113 : decode cX12_log 113 = .ok (.getfield 252, 3) := by decide +kernel
theorem dX12_log_116 : decode cX12_log 116 = .ok (.iconst 1, 1) := by decide +kernel
theorem dX12_log_117 : decode cX12_log 117 = .ok (.iadd, 1) := by decide +kernel
theorem dX12_log_118 : decode cX12_log 118 = .ok (.putfield 252, 3) := by decide +kernel
theorem dX12_log_121 : decode cX12_log 121 = .ok (.aload_n 0, 1) := by decide +kernel
theorem dX12_log_122 : decode cX12_log 122 = .ok (.getfield 252, 3) := by decide +kernel
theorem dX12_log_125 : decode cX12_log 125 = .ok (.iconst 1, 1) := by decide +kernel
theorem dX12_log_126 : decode cX12_log 126 = .ok (.isub, 1) := by decide +kernel
theorem dX12_log_127 : decode cX12_log 127 = .ok (.ireturn, 1) := by decide +kernel
theorem dX12_paper_0 : decode cX12_paper 0 = .ok (.aload_n 0, 1) := by decide +kernel
theorem dX12_paper_1 : decode cX12_paper 1 = .ok (.iload_n 1, 1) := by decide +kernel
theorem dX12_paper_2 : decode cX12_paper 2 = .ok (.invokevirtual 224, 3) := by decide +kernel
theorem dX12_paper_5 : decode cX12_paper 5 = .ok (.ifCond .eq 21, 3) := by decide +kernel
theorem dX12_paper_8 : decode cX12_paper 8 = .ok (.iload_n 2, 1) := by decide +kernel
theorem dX12_paper_9 : decode cX12_paper 9 = .ok (.invokestatic 276, 3) := by decide +kernel
theorem dX12_paper_12 : decode cX12_paper 12 = .ok (.ifCond .eq 14, 3) := by decide +kernel
theorem dX12_paper_15 : decode cX12_paper 15 = .ok (.iload 4, 2) := by decide +kernel
theorem dX12_paper_17 : decode cX12_paper 17 = .ok (.iconst 1, 1) := by decide +kernel
theorem dX12_paper_18 : decode cX12_paper 18 = .ok (.bipush 40, 2) := by decide +kernel
theorem dX12_paper_20 : decode cX12_paper 20 = .ok (.invokestatic 195, 3) := by decide +kernel
theorem dX12_paper_23 : decode cX12_paper 23 = .ok (.ifCond .ne 5, 3) := by decide +kernel
theorem dX12_paper_26 : decode cX12_paper 26 = .ok (.iconst (-1), 1) := by decide +kernel
theorem dX12_paper_27 : decode cX12_paper 27 = .ok (.ireturn, 1) := by decide +kernel
theorem dX12_paper_28 : decode cX12_paper 28 = .ok (.aload_n 0, 1) := by decide +kernel
theorem dX12_paper_29 : decode cX12_paper 29 = .ok (.getfield 180, 3) := by decide +kernel
theorem dX12_paper_32 : decode cX12_paper 32 = .ok (.iload_n 2, 1) := by decide +kernel
theorem dX12_paper_33 : decode cX12_paper 33 = .ok (.iaload, 1) := by decide +kernel
theorem dX12_paper_34 : decode cX12_paper 34 = .ok (.iconst (-1), 1) := by decide +kernel
theorem dX12_paper_35 : decode cX12_paper 35 = .ok (.if_icmp .eq 17, 3) := by decide +kernel
theorem dX12_paper_38 : decode cX12_paper 38 = .ok (.aload_n 0, 1) := by decide +kernel
theorem dX12_paper_39 : decode cX12_paper 39 = .ok (.getfield 180, 3) := by decide +kernel
theorem dX12_paper_42 : decode cX12_paper 42 = .ok (.iload_n 2, 1) := by decide +kernel
theorem dX12_paper_43 : decode cX12_paper 43 = .ok (.iaload, 1) := by decide +kernel
theorem dX12_paper_44 : decode cX12_paper 44 = .ok (.bipush (-3), 2) := by decide +kernel
theorem dX12_paper_46 : decode cX12_paper 46 = .ok (.if_icmp .eq 6, 3) := by decide +kernel
theorem dX12_paper_49 : decode cX12_paper 49 = .ok (.bipush (-12), 2) := by decide +kernel
theorem dX12_paper_51 : decode cX12_paper 51 = .ok (.ireturn, 1) := by decide +kernel
theorem dX12_paper_52 : decode cX12_paper 52 = .ok (.aload_n 0, 1) := by decide +kernel
theorem dX12_paper_53 : decode cX12_paper 53 = .ok (.getfield 59, 3) := by decide +kernel
theorem dX12_paper_56 : decode cX12_paper 56 = .ok (.iload_n 1, 1) := by decide +kernel
theorem dX12_paper_57 : decode cX12_paper 57 = .ok (.iconst 0, 1) := by decide +kernel
theorem dX12_paper_58 : decode cX12_paper 58 = .ok (.iastore, 1) := by decide +kernel
theorem dX12_paper_59 : decode cX12_paper 59 = .ok (.aload_n 0, 1) := by decide +kernel
theorem dX12_paper_60 : decode cX12_paper 60 = .ok (.getfield 180, 3) := by decide +kernel
theorem dX12_paper_63 : decode cX12_paper 63 = .ok (.iload_n 2, 1) := by decide +kernel
theorem dX12_paper_64 : decode cX12_paper 64 = .ok (.iaload, 1) := by decide +kernel
theorem dX12_paper_65 : decode cX12_paper 65 = .ok (.iconst (-1), 1) := by decide +kernel
theorem dX12_paper_66 : decode cX12_paper 66 = .ok (.if_icmp .ne 5, 3) := by decide +kernel
theorem dX12_paper_69 : decode cX12_paper 69 = .ok (.iconst 0, 1) := by decide +kernel
theorem dX12_paper_70 : decode cX12_paper 70 = .ok (.ireturn, 1) := by decide +kernel
theorem dX12_paper_71 : decode cX12_paper 71 = .ok (.iconst 0, 1) := by decide +kernel
theorem dX12_paper_72 : decode cX12_paper 72 = .ok (.istore 5, 2) := by decide +kernel
theorem dX12_paper_74 : decode cX12_paper 74 = .ok (.iload 5, 2) := by decide +kernel
theorem dX12_paper_76 : decode cX12_paper 76 = .ok (.iload 4, 2) := by decide +kernel
theorem dX12_paper_78 : decode cX12_paper 78 = .ok (.if_icmp .ge 98, 3) := by decide +kernel
theorem dX12_paper_81 : decode cX12_paper 81 = .ok (.iload_n 3, 1) := by decide +kernel
theorem dX12_paper_82 : decode cX12_paper 82 = .ok (.i2l, 1) := by decide +kernel
theorem dX12_paper_83 : decode cX12_paper 83 = .ok (.iload 5, 2) := by decide +kernel
theorem dX12_paper_85 : decode cX12_paper 85 = .ok (.i2l, 1) := by decide +kernel
theorem dX12_paper_86 : decode cX12_paper 86 = .ok (.ladd, 1) := by decide +kernel
theorem dX12_paper_87 : decode cX12_paper 87 = .ok (.lstore 6, 2) := by decide +kernel
theorem dX12_paper_89 : decode cX12_paper 89 = .ok (.lload 6, 2) := by decide +kernel
theorem dX12_paper_91 : decode cX12_paper 91 = .ok (.lconst 0, 1) := by decide +kernel
theorem dX12_paper_92 : decode cX12_paper 92 = .ok (.lcmp, 1) := by decide +kernel
theorem dX12_paper_93 : decode cX12_paper 93 = .ok (.ifCond .lt 83, 3) := by decide +kernel
theorem dX12_paper_96 : decode cX12_paper 96 = .ok (.lload 6, 2) := by decide +kernel
theorem dX12_paper_98 : decode cX12_paper 98 = .ok (.aload_n 0, 1) := by decide +kernel
theorem dX12_paper_99 : decode cX12_paper 99 = .ok (.getfield 183, 3) := by decide +kernel
theorem dX12_paper_102 : decode cX12_paper 102 = .ok (.iload_n 2, 1) := by decide +kernel
theorem dX12_paper_103 : decode cX12_paper 103 = .ok (.iaload, 1) := by decide +kernel
theorem dX12_paper_104 : decode cX12_paper 104 = .ok (.i2l, 1) := by decide +kernel
theorem dX12_paper_105 : decode cX12_paper 105 = .ok (.lcmp, 1) := by decide +kernel
theorem dX12_paper_106 : decode cX12_paper 106 = .ok (.ifCond .ge 70, 3) := by decide +kernel
theorem dX12_paper_109 : decode cX12_paper 109 = .ok (.aload_n 0, 1) := by decide +kernel
theorem dX12_paper_110 : decode cX12_paper 110 = .ok (.aload_n 0, 1) := by decide +kernel
theorem dX12_paper_111 : decode cX12_paper 111 = .ok (.getfield 186, 3) := by decide +kernel
theorem dX12_paper_114 : decode cX12_paper 114 = .ok (.bipush 60, 2) := by decide +kernel
theorem dX12_paper_116 : decode cX12_paper 116 = .ok (.iload_n 2, 1) := by decide +kernel
theorem dX12_paper_117 : decode cX12_paper 117 = .ok (.imul, 1) := by decide +kernel
theorem dX12_paper_118 : decode cX12_paper 118 = .ok (.lload 6, 2) := by decide +kernel
theorem dX12_paper_120 : decode cX12_paper 120 = .ok (.l2i, 1) := by decide +kernel
theorem dX12_paper_121 : decode cX12_paper 121 = .ok (.iadd, 1) := by decide +kernel
theorem dX12_paper_122 : decode cX12_paper 122 = .ok (.laload, 1) := by decide +kernel
theorem dX12_paper_123 : decode cX12_paper 123 = .ok (.l2i, 1) := by decide +kernel
theorem dX12_paper_124 : decode cX12_paper 124 = .ok (.invokevirtual 230, 3) := by decide +kernel
theorem dX12_paper_127 : decode cX12_paper 127 = .ok (.ifCond .ne 6, 3) := by decide +kernel
theorem dX12_paper_130 : decode cX12_paper 130 = .ok (.goto 46, 3) := by decide +kernel
theorem dX12_paper_133 : decode cX12_paper 133 = .ok (.aload_n 0, 1) := by decide +kernel
theorem dX12_paper_134 : decode cX12_paper 134 = .ok (.getfield 62, 3) := by decide +kernel
theorem dX12_paper_137 : decode cX12_paper 137 = .ok (.bipush 40, 2) := by decide +kernel
theorem dX12_paper_139 : decode cX12_paper 139 = .ok (.iload_n 1, 1) := by decide +kernel
theorem dX12_paper_140 : decode cX12_paper 140 = .ok (.imul, 1) := by decide +kernel
theorem dX12_paper_141 : decode cX12_paper 141 = .ok (.iload 5, 2) := by decide +kernel
theorem dX12_paper_143 : decode cX12_paper 143 = .ok (.iadd, 1) := by decide +kernel
theorem dX12_paper_144 : decode cX12_paper 144 = .ok (.aload_n 0, 1) := by decide +kernel
theorem dX12_paper_145 : decode cX12_paper 145 = .ok (.getfield 186, 3) := by decide +kernel
theorem dX12_paper_148 : decode cX12_paper 148 = .ok (.bipush 60, 2) := by decide +kernel
theorem dX12_paper_150 : decode cX12_paper 150 = .ok (.iload_n 2, 1) := by decide +kernel
theorem dX12_paper_151 : decode cX12_paper 151 = .ok (.imul, 1) := by decide +kernel
theorem dX12_paper_152 : decode cX12_paper 152 = .ok (.lload 6, 2) := by decide +kernel
theorem dX12_paper_154 : decode cX12_paper 154 = .ok (.l2i, 1) := by decide +kernel
theorem dX12_paper_155 : decode cX12_paper 155 = .ok (.iadd, 1) := by decide +kernel
theorem dX12_paper_156 : decode cX12_paper 156 = .ok (.laload, 1) := by decide +kernel
theorem dX12_paper_157 : decode cX12_paper 157 = .ok (.l2i, 1) := by decide +kernel
theorem dX12_paper_158 : decode cX12_paper 158 = .ok (.i2s, 1) := by decide +kernel
theorem dX12_paper_159 : decode cX12_paper 159 = .ok (.sastore, 1) := by decide +kernel
theorem dX12_paper_160 : decode cX12_paper 160 = .ok (.aload_n 0, 1) := by decide +kernel
theorem dX12_paper_161 : decode cX12_paper 161 = .ok (.getfield 59, 3) := by decide +kernel
theorem dX12_paper_164 : decode cX12_paper 164 = .ok (.iload_n 1, 1) := by decide +kernel
theorem dX12_paper_165 : decode cX12_paper 165 = .ok (.dup2, 1) := by decide +kernel
theorem dX12_paper_166 : decode cX12_paper 166 = .ok (.iaload, 1) := by decide +kernel
theorem dX12_paper_167 : decode cX12_paper 167 = .ok (.iconst 1, 1) := by decide +kernel
theorem dX12_paper_168 : decode cX12_paper 168 = .ok (.iadd, 1) := by decide +kernel
theorem dX12_paper_169 : decode cX12_paper 169 = .ok (.iastore, 1) := by decide +kernel
theorem dX12_paper_170 : decode cX12_paper 170 = .ok (.iinc 5 1, 3) := by decide +kernel
theorem dX12_paper_173 : decode cX12_paper 173 = .ok (.goto (-99), 3) := by decide +kernel
theorem dX12_paper_176 : decode cX12_paper 176 = .ok (.aload_n 0, 1) := by decide +kernel
theorem dX12_paper_177 : decode cX12_paper 177 = .ok (.getfield 59, 3) := by decide +kernel
theorem dX12_paper_180 : decode cX12_paper 180 = .ok (.iload_n 1, 1) := by decide +kernel
theorem dX12_paper_181 : decode cX12_paper 181 = .ok (.iaload, 1) := by decide +kernel
theorem dX12_paper_182 : decode cX12_paper 182 = .ok (.ireturn, 1) := by decide +kernel
theorem dX12_isOnPaper_0 : decode cX12_isOnPaper 0 = .ok (.iconst 0, 1) := by decide +kernel
theorem dX12_isOnPaper_1 : decode cX12_isOnPaper 1 = .ok (.istore_n 3, 1) := by decide +kernel
theorem dX12_isOnPaper_2 : decode cX12_isOnPaper 2 = .ok (.iload_n 3, 1) := by decide +kernel
theorem dX12_isOnPaper_3 : decode cX12_isOnPaper 3 = .ok (.aload_n 0, 1) := by decide +kernel
theorem dX12_isOnPaper_4 : decode cX12_isOnPaper 4 = .ok (.getfield 59, 3) := by decide +kernel
theorem dX12_isOnPaper_7 : decode cX12_isOnPaper 7 = .ok (.iload_n 2, 1) := by decide +kernel
theorem dX12_isOnPaper_8 : decode cX12_isOnPaper 8 = .ok (.iaload, 1) := by decide +kernel
theorem dX12_isOnPaper_9 : decode cX12_isOnPaper 9 = .ok (.if_icmp .ge 26, 3) := by decide +kernel
theorem dX12_isOnPaper_12 : decode cX12_isOnPaper 12 = .ok (.aload_n 0, 1) := by decide +kernel
theorem dX12_isOnPaper_13 : decode cX12_isOnPaper 13 = .ok (.getfield 62, 3) := by decide +kernel
theorem dX12_isOnPaper_16 : decode cX12_isOnPaper 16 = .ok (.bipush 40, 2) := by decide +kernel
theorem dX12_isOnPaper_18 : decode cX12_isOnPaper 18 = .ok (.iload_n 2, 1) := by decide +kernel
theorem dX12_isOnPaper_19 : decode cX12_isOnPaper 19 = .ok (.imul, 1) := by decide +kernel
theorem dX12_isOnPaper_20 : decode cX12_isOnPaper 20 = .ok (.iload_n 3, 1) := by decide +kernel
theorem dX12_isOnPaper_21 : decode cX12_isOnPaper 21 = .ok (.iadd, 1) := by decide +kernel
theorem dX12_isOnPaper_22 : decode cX12_isOnPaper 22 = .ok (.saload, 1) := by decide +kernel
theorem dX12_isOnPaper_23 : decode cX12_isOnPaper 23 = .ok (.iload_n 1, 1) := by decide +kernel
theorem dX12_isOnPaper_24 : decode cX12_isOnPaper 24 = .ok (.if_icmp .ne 5, 3) := by decide +kernel
theorem dX12_isOnPaper_27 : decode cX12_isOnPaper 27 = .ok (.iconst 1, 1) := by decide +kernel
theorem dX12_isOnPaper_28 : decode cX12_isOnPaper 28 = .ok (.ireturn, 1) := by decide +kernel
theorem dX12_isOnPaper_29 : decode cX12_isOnPaper 29 = .ok (.iinc 3 1, 3) := by decide +kernel
theorem dX12_isOnPaper_32 : decode cX12_isOnPaper 32 = .ok (.goto (-30), 3) := by decide +kernel
theorem dX12_isOnPaper_35 : decode cX12_isOnPaper 35 = .ok (.iconst 0, 1) := by decide +kernel
theorem dX12_isOnPaper_36 : decode cX12_isOnPaper 36 = .ok (.ireturn, 1) := by decide +kernel
theorem dX12_hasFound_0 : decode cX12_hasFound 0 = .ok (.iconst 0, 1) := by decide +kernel
theorem dX12_hasFound_1 : decode cX12_hasFound 1 = .ok (.istore_n 3, 1) := by decide +kernel
theorem dX12_hasFound_2 : decode cX12_hasFound 2 = .ok (.iload_n 3, 1) := by decide +kernel
theorem dX12_hasFound_3 : decode cX12_hasFound 3 = .ok (.aload_n 0, 1) := by decide +kernel
theorem dX12_hasFound_4 : decode cX12_hasFound 4 = .ok (.getfield 252, 3) := by decide +kernel
theorem dX12_hasFound_7 : decode cX12_hasFound 7 = .ok (.if_icmp .ge 40, 3) := by decide +kernel
theorem dX12_hasFound_10 : decode cX12_hasFound 10 = .ok (.aload_n 0, 1) := by decide +kernel
theorem dX12_hasFound_11 : decode cX12_hasFound 11 = .ok (.getfield 46, 3) := by decide +kernel
theorem dX12_hasFound_14 : decode cX12_hasFound 14 = .ok (.iload_n 3, 1) := by decide +kernel
theorem dX12_hasFound_15 : decode cX12_hasFound 15 = .ok (.iaload, 1) := by decide +kernel
theorem dX12_hasFound_16 : decode cX12_hasFound 16 = .ok (.iload_n 1, 1) := by decide +kernel
theorem dX12_hasFound_17 : decode cX12_hasFound 17 = .ok (.if_icmp .ne 24, 3) := by decide +kernel
theorem dX12_hasFound_20 : decode cX12_hasFound 20 = .ok (.aload_n 0, 1) := by decide +kernel
theorem dX12_hasFound_21 : decode cX12_hasFound 21 = .ok (.getfield 49, 3) := by decide +kernel
theorem dX12_hasFound_24 : decode cX12_hasFound 24 = .ok (.iload_n 3, 1) := by decide +kernel
theorem dX12_hasFound_25 : decode cX12_hasFound 25 = .ok (.iaload, 1) := by decide +kernel
theorem dX12_hasFound_26 : decode cX12_hasFound 26 = .ok (.iload_n 2, 1) := by decide +kernel
theorem dX12_hasFound_27 : decode cX12_hasFound 27 = .ok (.if_icmp .ne 14, 3) := by decide +kernel
theorem dX12_hasFound_30 : decode cX12_hasFound 30 = .ok (.aload_n 0, 1) := by decide +kernel
theorem dX12_hasFound_31 : decode cX12_hasFound 31 = .ok (.getfield 55, 3) := by decide +kernel
theorem dX12_hasFound_34 : decode cX12_hasFound 34 = .ok (.iload_n 3, 1) := by decide +kernel
theorem dX12_hasFound_35 : decode cX12_hasFound 35 = .ok (.baload, 1) := by decide +kernel
theorem dX12_hasFound_36 : decode cX12_hasFound 36 = .ok (.ifCond .eq 5, 3) := by decide +kernel
theorem dX12_hasFound_39 : decode cX12_hasFound 39 = .ok (.iconst 1, 1) := by decide +kernel
theorem dX12_hasFound_40 : decode cX12_hasFound 40 = .ok (.ireturn, 1) := by decide +kernel
theorem dX12_hasFound_41 : decode cX12_hasFound 41 = .ok (.iinc 3 1, 3) := by decide +kernel
theorem dX12_hasFound_44 : decode cX12_hasFound 44 = .ok (.goto (-42), 3) := by decide +kernel
theorem dX12_hasFound_47 : decode cX12_hasFound 47 = .ok (.iconst 0, 1) := by decide +kernel
theorem dX12_hasFound_48 : decode cX12_hasFound 48 = .ok (.ireturn, 1) := by decide +kernel
theorem dX12_isJoined_0 : decode cX12_isJoined 0 = .ok (.aload_n 0, 1) := by decide +kernel
theorem dX12_isJoined_1 : decode cX12_isJoined 1 = .ok (.iload_n 1, 1) := by decide +kernel
theorem dX12_isJoined_2 : decode cX12_isJoined 2 = .ok (.iload_n 2, 1) := by decide +kernel
theorem dX12_isJoined_3 : decode cX12_isJoined 3 = .ok (.invokevirtual 279, 3) := by decide +kernel
theorem dX12_isJoined_6 : decode cX12_isJoined 6 = .ok (.istore 4, 2) := by decide +kernel
theorem dX12_isJoined_8 : decode cX12_isJoined 8 = .ok (.aload_n 0, 1) := by decide +kernel
theorem dX12_isJoined_9 : decode cX12_isJoined 9 = .ok (.iload_n 1, 1) := by decide +kernel
theorem dX12_isJoined_10 : decode cX12_isJoined 10 = .ok (.iload_n 2, 1) := by decide +kernel
theorem dX12_isJoined_11 : decode cX12_isJoined 11 = .ok (.invokevirtual 282, 3) := by decide +kernel
theorem dX12_isJoined_14 : decode cX12_isJoined 14 = .ok (.istore 5, 2) := by decide +kernel
theorem dX12_isJoined_16 : decode cX12_isJoined 16 = .ok (.iload_n 3, 1) := by decide +kernel
theorem dX12_isJoined_17 : decode cX12_isJoined 17 = .ok (.ifCond .ne 21, 3) := by decide +kernel
theorem dX12_isJoined_20 : decode cX12_isJoined 20 = .ok (.iload 4, 2) := by decide +kernel
theorem dX12_isJoined_22 : decode cX12_isJoined 22 = .ok (.ifCond .eq 12, 3) := by decide +kernel
theorem dX12_isJoined_25 : decode cX12_isJoined 25 = .ok (.iload 5, 2) := by decide +kernel
theorem dX12_isJoined_27 : decode cX12_isJoined 27 = .ok (.ifCond .eq 7, 3) := by decide +kernel
theorem dX12_isJoined_30 : decode cX12_isJoined 30 = .ok (.iconst 1, 1) := by decide +kernel
theorem dX12_isJoined_31 : decode cX12_isJoined 31 = .ok (.goto 45, 3) := by decide +kernel
theorem dX12_isJoined_34 : decode cX12_isJoined 34 = .ok (.iconst 0, 1) := by decide +kernel
theorem dX12_isJoined_35 : decode cX12_isJoined 35 = .ok (.goto 41, 3) := by decide +kernel
theorem dX12_isJoined_38 : decode cX12_isJoined 38 = .ok (.iload_n 3, 1) := by decide +kernel
theorem dX12_isJoined_39 : decode cX12_isJoined 39 = .ok (.iconst 1, 1) := by decide +kernel
theorem dX12_isJoined_40 : decode cX12_isJoined 40 = .ok (.if_icmp .ne 21, 3) := by decide +kernel
theorem dX12_isJoined_43 : decode cX12_isJoined 43 = .ok (.iload 4, 2) := by decide +kernel
theorem dX12_isJoined_45 : decode cX12_isJoined 45 = .ok (.ifCond .eq 12, 3) := by decide +kernel
theorem dX12_isJoined_48 : decode cX12_isJoined 48 = .ok (.iload 5, 2) := by decide +kernel
theorem dX12_isJoined_50 : decode cX12_isJoined 50 = .ok (.ifCond .ne 7, 3) := by decide +kernel
theorem dX12_isJoined_53 : decode cX12_isJoined 53 = .ok (.iconst 1, 1) := by decide +kernel
theorem dX12_isJoined_54 : decode cX12_isJoined 54 = .ok (.goto 22, 3) := by decide +kernel
theorem dX12_isJoined_57 : decode cX12_isJoined 57 = .ok (.iconst 0, 1) := by decide +kernel
theorem dX12_isJoined_58 : decode cX12_isJoined 58 = .ok (.goto 18, 3) := by decide +kernel
theorem dX12_isJoined_61 : decode cX12_isJoined 61 = .ok (.iload 5, 2) := by decide +kernel
theorem dX12_isJoined_63 : decode cX12_isJoined 63 = .ok (.ifCond .eq 12, 3) := by decide +kernel
theorem dX12_isJoined_66 : decode cX12_isJoined 66 = .ok (.iload 4, 2) := by decide +kernel
theorem dX12_isJoined_68 : decode cX12_isJoined 68 = .ok (.ifCond .ne 7, 3) := by decide +kernel
theorem dX12_isJoined_71 : decode cX12_isJoined 71 = .ok (.iconst 1, 1) := by decide +kernel
theorem dX12_isJoined_72 : decode cX12_isJoined 72 = .ok (.goto 4, 3) := by decide +kernel
theorem dX12_isJoined_75 : decode cX12_isJoined 75 = .ok (.iconst 0, 1) := by decide +kernel
theorem dX12_isJoined_76 : decode cX12_isJoined 76 = .ok (.ireturn, 1) := by decide +kernel
theorem dX12_join_0 : decode cX12_join 0 = .ok (.aload_n 0, 1) := by decide +kernel
theorem dX12_join_1 : decode cX12_join 1 = .ok (.iload_n 1, 1) := by decide +kernel
theorem dX12_join_2 : decode cX12_join 2 = .ok (.invokevirtual 224, 3) := by decide +kernel
theorem dX12_join_5 : decode cX12_join 5 = .ok (.ifCond .eq 17, 3) := by decide +kernel
theorem dX12_join_8 : decode cX12_join 8 = .ok (.iload_n 2, 1) := by decide +kernel
theorem dX12_join_9 : decode cX12_join 9 = .ok (.iconst 0, 1) := by decide +kernel
theorem dX12_join_10 : decode cX12_join 10 = .ok (.iconst 2, 1) := by decide +kernel
theorem dX12_join_11 : decode cX12_join 11 = .ok (.invokestatic 195, 3) := by decide +kernel
theorem dX12_join_14 : decode cX12_join 14 = .ok (.ifCond .eq 8, 3) := by decide +kernel
theorem dX12_join_17 : decode cX12_join 17 = .ok (.iload_n 3, 1) := by decide +kernel
theorem dX12_join_18 : decode cX12_join 18 = .ok (.iconst (-1), 1) := by decide +kernel
theorem dX12_join_19 : decode cX12_join 19 = .ok (.if_icmp .ge 5, 3) := by decide +kernel
theorem dX12_join_22 : decode cX12_join 22 = .ok (.iconst (-1), 1) := by decide +kernel
theorem dX12_join_23 : decode cX12_join 23 = .ok (.ireturn, 1) := by decide +kernel
theorem dX12_join_24 : decode cX12_join 24 = .ok (.iconst 0, 1) := by decide +kernel
theorem dX12_join_25 : decode cX12_join 25 = .ok (.istore 4, 2) := by decide +kernel
theorem dX12_join_27 : decode cX12_join 27 = .ok (.iconst 0, 1) := by decide +kernel
theorem dX12_join_28 : decode cX12_join 28 = .ok (.istore 5, 2) := by decide +kernel
theorem dX12_join_30 : decode cX12_join 30 = .ok (.iload 5, 2) := by decide +kernel
theorem dX12_join_32 : decode cX12_join 32 = .ok (.aload_n 0, 1) := by decide +kernel
theorem dX12_join_33 : decode cX12_join 33 = .ok (.getfield 214, 3) := by decide +kernel
theorem dX12_join_36 : decode cX12_join 36 = .ok (.if_icmp .ge 47, 3) := by decide +kernel
theorem dX12_join_39 : decode cX12_join 39 = .ok (.aload_n 0, 1) := by decide +kernel
theorem dX12_join_40 : decode cX12_join 40 = .ok (.getfield 13, 3) := by decide +kernel
theorem dX12_join_43 : decode cX12_join 43 = .ok (.iload 5, 2) := by decide +kernel
theorem dX12_join_45 : decode cX12_join 45 = .ok (.iaload, 1) := by decide +kernel
theorem dX12_join_46 : decode cX12_join 46 = .ok (.bipush 7, 2) := by decide +kernel
theorem dX12_join_48 : decode cX12_join 48 = .ok (.if_icmp .ne 29, 3) := by decide +kernel
theorem dX12_join_51 : decode cX12_join 51 = .ok (.aload_n 0, 1) := by decide +kernel
theorem dX12_join_52 : decode cX12_join 52 = .ok (.iload 5, 2) := by decide +kernel
theorem dX12_join_54 : decode cX12_join 54 = .ok (.iload_n 1, 1) := by decide +kernel
theorem dX12_join_55 : decode cX12_join 55 = .ok (.iload_n 2, 1) := by decide +kernel
theorem dX12_join_56 : decode cX12_join 56 = .ok (.invokevirtual 285, 3) := by decide +kernel
theorem dX12_join_59 : decode cX12_join 59 = .ok (.ifCond .ne 6, 3) := by decide +kernel
theorem dX12_join_62 : decode cX12_join 62 = .ok (.goto 15, 3) := by decide +kernel
theorem dX12_join_65 : decode cX12_join 65 = .ok (.iload 4, 2) := by decide +kernel
theorem dX12_join_67 : decode cX12_join 67 = .ok (.iload_n 3, 1) := by decide +kernel
theorem dX12_join_68 : decode cX12_join 68 = .ok (.if_icmp .ne 6, 3) := by decide +kernel
theorem dX12_join_71 : decode cX12_join 71 = .ok (.iload 5, 2) := by decide +kernel
theorem dX12_join_73 : decode cX12_join 73 = .ok (.ireturn, 1) := by decide +kernel
theorem dX12_join_74 : decode cX12_join 74 = .ok (.iinc 4 1, 3) := by decide +kernel
theorem dX12_join_77 : decode cX12_join 77 = .ok (.iinc 5 1, 3) := by decide +kernel
theorem dX12_join_80 : decode cX12_join 80 = .ok (.goto (-50), 3) := by decide +kernel
theorem dX12_join_83 : decode cX12_join 83 = .ok (.iload_n 3, 1) := by decide +kernel
theorem dX12_join_84 : decode cX12_join 84 = .ok (.ifCond .ge 8, 3) := by decide +kernel
theorem dX12_join_87 : decode cX12_join 87 = .ok (.iload 4, 2) := by decide +kernel
theorem dX12_join_89 : decode cX12_join 89 = .ok (.goto 4, 3) := by decide +kernel
theorem dX12_join_92 : decode cX12_join 92 = .ok (.iconst (-1), 1) := by decide +kernel
theorem dX12_join_93 : decode cX12_join 93 = .ok (.ireturn, 1) := by decide +kernel
theorem dX12_logCounts_0 : decode cX12_logCounts 0 = .ok (.aload_n 0, 1) := by decide +kernel
theorem dX12_logCounts_1 : decode cX12_logCounts 1 = .ok (.aload_n 0, 1) := by decide +kernel
theorem dX12_logCounts_2 : decode cX12_logCounts 2 = .ok (.getfield 46, 3) := by decide +kernel
theorem dX12_logCounts_5 : decode cX12_logCounts 5 = .ok (.iload_n 1, 1) := by decide +kernel
theorem dX12_logCounts_6 : decode cX12_logCounts 6 = .ok (.iaload, 1) := by decide +kernel
theorem dX12_logCounts_7 : decode cX12_logCounts 7 = .ok (.aload_n 0, 1) := by decide +kernel
theorem dX12_logCounts_8 : decode cX12_logCounts 8 = .ok (.getfield 52, 3) := by decide +kernel
theorem dX12_logCounts_11 : decode cX12_logCounts 11 = .ok (.iload_n 1, 1) := by decide +kernel
theorem dX12_logCounts_12 : decode cX12_logCounts 12 = .ok (.iaload, 1) := by decide +kernel
theorem dX12_logCounts_13 : decode cX12_logCounts 13 = .ok (.bipush 24, 2) := by decide +kernel
theorem dX12_logCounts_15 : decode cX12_logCounts 15 = .ok (.idiv, 1) := by decide +kernel
theorem dX12_logCounts_16 : decode cX12_logCounts 16 = .ok (.invokevirtual 288, 3) := by decide +kernel
theorem dX12_logCounts_19 : decode cX12_logCounts 19 = .ok (.aload_n 0, 1) := by decide +kernel
theorem dX12_logCounts_20 : decode cX12_logCounts 20 = .ok (.aload_n 0, 1) := by decide +kernel
theorem dX12_logCounts_21 : decode cX12_logCounts 21 = .ok (.getfield 49, 3) := by decide +kernel
theorem dX12_logCounts_24 : decode cX12_logCounts 24 = .ok (.iload_n 1, 1) := by decide +kernel
theorem dX12_logCounts_25 : decode cX12_logCounts 25 = .ok (.iaload, 1) := by decide +kernel
theorem dX12_logCounts_26 : decode cX12_logCounts 26 = .ok (.aload_n 0, 1) := by decide +kernel
theorem dX12_logCounts_27 : decode cX12_logCounts 27 = .ok (.getfield 52, 3) := by decide +kernel
theorem dX12_logCounts_30 : decode cX12_logCounts 30 = .ok (.iload_n 1, 1) := by decide +kernel
theorem dX12_logCounts_31 : decode cX12_logCounts 31 = .ok (.iaload, 1) := by decide +kernel
theorem dX12_logCounts_32 : decode cX12_logCounts 32 = .ok (.bipush 24, 2) := by decide +kernel
theorem dX12_logCounts_34 : decode cX12_logCounts 34 = .ok (.idiv, 1) := by decide +kernel
theorem dX12_logCounts_35 : decode cX12_logCounts 35 = .ok (.invokevirtual 292, 3) := by decide +kernel
theorem dX12_logCounts_38 : decode cX12_logCounts 38 = .ok (.aload_n 0, 1) := by decide +kernel
theorem dX12_logCounts_39 : decode cX12_logCounts 39 = .ok (.getfield 97, 3) := by decide +kernel
theorem dX12_logCounts_42 : decode cX12_logCounts 42 = .ok (.bipush 7, 2) := by decide +kernel
theorem dX12_logCounts_44 : decode cX12_logCounts 44 = .ok (.aload_n 0, 1) := by decide +kernel
theorem dX12_logCounts_45 : decode cX12_logCounts 45 = .ok (.getfield 52, 3) := by decide +kernel
theorem dX12_logCounts_48 : decode cX12_logCounts 48 = .ok (.iload_n 1, 1) := by decide +kernel
theorem dX12_logCounts_49 : decode cX12_logCounts 49 = .ok (.iaload, 1) := by decide +kernel
theorem dX12_logCounts_50 : decode cX12_logCounts 50 = .ok (.bipush 24, 2) := by decide +kernel
theorem dX12_logCounts_52 : decode cX12_logCounts 52 = .ok (.irem, 1) := by decide +kernel
theorem dX12_logCounts_53 : decode cX12_logCounts 53 = .ok (.iastore, 1) := by decide +kernel
theorem dX12_logCounts_54 : decode cX12_logCounts 54 = .ok (.aload_n 0, 1) := by decide +kernel
theorem dX12_logCounts_55 : decode cX12_logCounts 55 = .ok (.aload_n 0, 1) := by decide +kernel
theorem dX12_logCounts_56 : decode cX12_logCounts 56 = .ok (.getfield 46, 3) := by decide +kernel
theorem dX12_logCounts_59 : decode cX12_logCounts 59 = .ok (.iload_n 1, 1) := by decide +kernel
theorem dX12_logCounts_60 : decode cX12_logCounts 60 = .ok (.iaload, 1) := by decide +kernel
theorem dX12_logCounts_61 : decode cX12_logCounts 61 = .ok (.aload_n 0, 1) := by decide +kernel
theorem dX12_logCounts_62 : decode cX12_logCounts 62 = .ok (.getfield 49, 3) := by decide +kernel
theorem dX12_logCounts_65 : decode cX12_logCounts 65 = .ok (.iload_n 1, 1) := by decide +kernel
theorem dX12_logCounts_66 : decode cX12_logCounts 66 = .ok (.iaload, 1) := by decide +kernel
theorem dX12_logCounts_67 : decode cX12_logCounts 67 = .ok (.invokevirtual 295, 3) := by decide +kernel
theorem dX12_logCounts_70 : decode cX12_logCounts 70 = .ok (.iload_n 2, 1) := by decide +kernel
theorem dX12_logCounts_71 : decode cX12_logCounts 71 = .ok (.ifCond .lt 11, 3) := by decide +kernel
theorem dX12_logCounts_74 : decode cX12_logCounts 74 = .ok (.aload_n 0, 1) := by decide +kernel
theorem dX12_logCounts_75 : decode cX12_logCounts 75 = .ok (.iload_n 2, 1) := by decide +kernel
theorem dX12_logCounts_76 : decode cX12_logCounts 76 = .ok (.invokevirtual 298, 3) := by decide +kernel
theorem dX12_logCounts_79 : decode cX12_logCounts 79 = .ok (.goto 22, 3) := by decide +kernel
theorem dX12_logCounts_82 : decode cX12_logCounts 82 = .ok (.aload_n 0, 1) := by decide +kernel
theorem dX12_logCounts_83 : decode cX12_logCounts 83 = .ok (.iconst 2, 1) := by decide +kernel
theorem dX12_logCounts_84 : decode cX12_logCounts 84 = .ok (.aload_n 0, 1) := by decide +kernel
theorem dX12_logCounts_85 : decode cX12_logCounts 85 = .ok (.getfield 52, 3) := by decide +kernel
theorem dX12_logCounts_88 : decode cX12_logCounts 88 = .ok (.iload_n 1, 1) := by decide +kernel
theorem dX12_logCounts_89 : decode cX12_logCounts 89 = .ok (.iaload, 1) := by decide +kernel
theorem dX12_logCounts_90 : decode cX12_logCounts 90 = .ok (.bipush 24, 2) := by decide +kernel
theorem dX12_logCounts_92 : decode cX12_logCounts 92 = .ok (.idiv, 1) := by decide +kernel
theorem dX12_logCounts_93 : decode cX12_logCounts 93 = .ok (.aload_n 0, 1) := by decide +kernel
theorem dX12_logCounts_94 : decode cX12_logCounts 94 = .ok (.getfield 203, 3) := by decide +kernel
theorem dX12_logCounts_97 : decode cX12_logCounts 97 = .ok (.iconst 1, 1) := by decide +kernel
theorem dX12_logCounts_98 : decode cX12_logCounts 98 = .ok (.invokevirtual 301, 3) := by decide +kernel
theorem dX12_logCounts_101 : decode cX12_logCounts 101 = .ok (.ifCond .eq 7, 3) := by decide +kernel
theorem dX12_logCounts_104 : decode cX12_logCounts 104 = .ok (.iconst 1, 1) := by decide +kernel
theorem dX12_logCounts_105 : decode cX12_logCounts 105 = .ok (.goto 4, 3) := by decide +kernel
theorem dX12_logCounts_108 : decode cX12_logCounts 108 = .ok (.iconst 0, 1) := by decide +kernel
theorem dX12_logCounts_109 : decode cX12_logCounts 109 = .ok (.ireturn, 1) := by decide +kernel
theorem dX12_first_0 : decode cX12_first 0 = .ok (.aload_n 0, 1) := by decide +kernel
theorem dX12_first_1 : decode cX12_first 1 = .ok (.iload_n 1, 1) := by decide +kernel
theorem dX12_first_2 : decode cX12_first 2 = .ok (.invokevirtual 224, 3) := by decide +kernel
theorem dX12_first_5 : decode cX12_first 5 = .ok (.ifCond .ne 5, 3) := by decide +kernel
theorem dX12_first_8 : decode cX12_first 8 = .ok (.iconst (-1), 1) := by decide +kernel
theorem dX12_first_9 : decode cX12_first 9 = .ok (.ireturn, 1) := by decide +kernel
theorem dX12_first_10 : decode cX12_first 10 = .ok (.aload_n 0, 1) := by decide +kernel
theorem dX12_first_11 : decode cX12_first 11 = .ok (.getfield 59, 3) := by decide +kernel
theorem dX12_first_14 : decode cX12_first 14 = .ok (.iload_n 1, 1) := by decide +kernel
theorem dX12_first_15 : decode cX12_first 15 = .ok (.iaload, 1) := by decide +kernel
theorem dX12_first_16 : decode cX12_first 16 = .ok (.ifCond .le 13, 3) := by decide +kernel
theorem dX12_first_19 : decode cX12_first 19 = .ok (.aload_n 0, 1) := by decide +kernel
theorem dX12_first_20 : decode cX12_first 20 = .ok (.getfield 62, 3) := by decide +kernel
theorem dX12_first_23 : decode cX12_first 23 = .ok (.bipush 40, 2) := by decide +kernel
theorem dX12_first_25 : decode cX12_first 25 = .ok (.iload_n 1, 1) := by decide +kernel
theorem dX12_first_26 : decode cX12_first 26 = .ok (.imul, 1) := by decide +kernel
theorem dX12_first_27 : decode cX12_first 27 = .ok (.saload, 1) := by decide +kernel
theorem dX12_first_28 : decode cX12_first 28 = .ok (.ireturn, 1) := by decide +kernel
theorem dX12_first_29 : decode cX12_first 29 = .ok (.iconst (-1), 1) := by decide +kernel
theorem dX12_first_30 : decode cX12_first 30 = .ok (.istore_n 2, 1) := by decide +kernel
theorem dX12_first_31 : decode cX12_first 31 = .ok (.iconst 0, 1) := by decide +kernel
theorem dX12_first_32 : decode cX12_first 32 = .ok (.istore_n 3, 1) := by decide +kernel
theorem dX12_first_33 : decode cX12_first 33 = .ok (.iload_n 3, 1) := by decide +kernel
theorem dX12_first_34 : decode cX12_first 34 = .ok (.aload_n 0, 1) := by decide +kernel
theorem dX12_first_35 : decode cX12_first 35 = .ok (.getfield 252, 3) := by decide +kernel
theorem dX12_first_38 : decode cX12_first 38 = .ok (.if_icmp .ge 58, 3) := by decide +kernel
theorem dX12_first_41 : decode cX12_first 41 = .ok (.aload_n 0, 1) := by decide +kernel
theorem dX12_first_42 : decode cX12_first 42 = .ok (.getfield 49, 3) := by decide +kernel
theorem dX12_first_45 : decode cX12_first 45 = .ok (.iload_n 3, 1) := by decide +kernel
theorem dX12_first_46 : decode cX12_first 46 = .ok (.iaload, 1) := by decide +kernel
theorem dX12_first_47 : decode cX12_first 47 = .ok (.iload_n 1, 1) := by decide +kernel
theorem dX12_first_48 : decode cX12_first 48 = .ok (.if_icmp .ne 42, 3) := by decide +kernel
theorem dX12_first_51 : decode cX12_first 51 = .ok (.aload_n 0, 1) := by decide +kernel
theorem dX12_first_52 : decode cX12_first 52 = .ok (.getfield 55, 3) := by decide +kernel
theorem dX12_first_55 : decode cX12_first 55 = .ok (.iload_n 3, 1) := by decide +kernel
theorem dX12_first_56 : decode cX12_first 56 = .ok (.baload, 1) := by decide +kernel
theorem dX12_first_57 : decode cX12_first 57 = .ok (.ifCond .eq 33, 3) := by decide +kernel
theorem dX12_first_60 : decode cX12_first 60 = .ok (.iload_n 2, 1) := by decide +kernel
theorem dX12_first_61 : decode cX12_first 61 = .ok (.ifCond .lt 18, 3) := by decide +kernel
theorem dX12_first_64 : decode cX12_first 64 = .ok (.aload_n 0, 1) := by decide +kernel
theorem dX12_first_65 : decode cX12_first 65 = .ok (.getfield 52, 3) := by decide +kernel
theorem dX12_first_68 : decode cX12_first 68 = .ok (.iload_n 3, 1) := by decide +kernel
theorem dX12_first_69 : decode cX12_first 69 = .ok (.iaload, 1) := by decide +kernel
theorem dX12_first_70 : decode cX12_first 70 = .ok (.aload_n 0, 1) := by decide +kernel
theorem dX12_first_71 : decode cX12_first 71 = .ok (.getfield 52, 3) := by decide +kernel
theorem dX12_first_74 : decode cX12_first 74 = .ok (.iload_n 2, 1) := by decide +kernel
theorem dX12_first_75 : decode cX12_first 75 = .ok (.iaload, 1) := by decide +kernel
theorem dX12_first_76 : decode cX12_first 76 = .ok (.if_icmp .ge 14, 3) := by decide +kernel
theorem dX12_first_79 : decode cX12_first 79 = .ok (.aload_n 0, 1) := by decide +kernel
theorem dX12_first_80 : decode cX12_first 80 = .ok (.iload_n 3, 1) := by decide +kernel
theorem dX12_first_81 : decode cX12_first 81 = .ok (.iconst (-1), 1) := by decide +kernel
theorem dX12_first_82 : decode cX12_first 82 = .ok (.invokevirtual 305, 3) := by decide +kernel
theorem dX12_first_85 : decode cX12_first 85 = .ok (.ifCond .eq 5, 3) := by decide +kernel
theorem dX12_first_88 : decode cX12_first 88 = .ok (.iload_n 3, 1) := by decide +kernel
theorem dX12_first_89 : decode cX12_first 89 = .ok (.istore_n 2, 1) := by decide +kernel
theorem dX12_first_90 : decode cX12_first 90 = .ok (.iinc 3 1, 3) := by decide +kernel
theorem dX12_first_93 : decode cX12_first 93 = .ok (.goto (-60), 3) := by decide +kernel
theorem dX12_first_96 : decode cX12_first 96 = .ok (.iload_n 2, 1) := by decide +kernel
theorem dX12_first_97 : decode cX12_first 97 = .ok (.ifCond .ge 8, 3) := by decide +kernel
theorem dX12_first_100 : decode cX12_first 100 = .ok (.bipush (-2), 2) := by decide +kernel
theorem dX12_first_102 : decode cX12_first 102 = .ok (.goto 9, 3) := by decide +kernel
theorem dX12_first_105 : decode cX12_first 105 = .ok (.aload_n 0, 1) := by decide +kernel
theorem dX12_first_106 : decode cX12_first 106 = .ok (.getfield 46, 3) := by decide +kernel
theorem dX12_first_109 : decode cX12_first 109 = .ok (.iload_n 2, 1) := by decide +kernel
theorem dX12_first_110 : decode cX12_first 110 = .ok (.iaload, 1) := by decide +kernel
theorem dX12_first_111 : decode cX12_first 111 = .ok (.ireturn, 1) := by decide +kernel
theorem dX12_clash_0 : decode cX12_clash 0 = .ok (.aload_n 0, 1) := by decide +kernel
theorem dX12_clash_1 : decode cX12_clash 1 = .ok (.aload_n 0, 1) := by decide +kernel
theorem dX12_clash_2 : decode cX12_clash 2 = .ok (.getfield 49, 3) := by decide +kernel
theorem dX12_clash_5 : decode cX12_clash 5 = .ok (.iload_n 1, 1) := by decide +kernel
theorem dX12_clash_6 : decode cX12_clash 6 = .ok (.iaload, 1) := by decide +kernel
theorem dX12_clash_7 : decode cX12_clash 7 = .ok (.aload_n 0, 1) := by decide +kernel
theorem dX12_clash_8 : decode cX12_clash 8 = .ok (.getfield 52, 3) := by decide +kernel
theorem dX12_clash_11 : decode cX12_clash 11 = .ok (.iload_n 1, 1) := by decide +kernel
theorem dX12_clash_12 : decode cX12_clash 12 = .ok (.iaload, 1) := by decide +kernel
theorem dX12_clash_13 : decode cX12_clash 13 = .ok (.invokevirtual 248, 3) := by decide +kernel
theorem dX12_clash_16 : decode cX12_clash 16 = .ok (.istore_n 2, 1) := by decide +kernel
theorem dX12_clash_17 : decode cX12_clash 17 = .ok (.iconst 0, 1) := by decide +kernel
theorem dX12_clash_18 : decode cX12_clash 18 = .ok (.istore_n 3, 1) := by decide +kernel
theorem dX12_clash_19 : decode cX12_clash 19 = .ok (.iload_n 3, 1) := by decide +kernel
theorem dX12_clash_20 : decode cX12_clash 20 = .ok (.aload_n 0, 1) := by decide +kernel
theorem dX12_clash_21 : decode cX12_clash 21 = .ok (.getfield 252, 3) := by decide +kernel
theorem dX12_clash_24 : decode cX12_clash 24 = .ok (.if_icmp .ge 95, 3) := by decide +kernel
theorem dX12_clash_27 : decode cX12_clash 27 = .ok (.iload_n 3, 1) := by decide +kernel
theorem dX12_clash_28 : decode cX12_clash 28 = .ok (.iload_n 1, 1) := by decide +kernel
theorem dX12_clash_29 : decode cX12_clash 29 = .ok (.if_icmp .eq 84, 3) := by decide +kernel
theorem dX12_clash_32 : decode cX12_clash 32 = .ok (.aload_n 0, 1) := by decide +kernel
theorem dX12_clash_33 : decode cX12_clash 33 = .ok (.getfield 46, 3) := by decide +kernel
theorem dX12_clash_36 : decode cX12_clash 36 = .ok (.iload_n 3, 1) := by decide +kernel
theorem dX12_clash_37 : decode cX12_clash 37 = .ok (.iaload, 1) := by decide +kernel
theorem dX12_clash_38 : decode cX12_clash 38 = .ok (.aload_n 0, 1) := by decide +kernel
theorem dX12_clash_39 : decode cX12_clash 39 = .ok (.getfield 46, 3) := by decide +kernel
theorem dX12_clash_42 : decode cX12_clash 42 = .ok (.iload_n 1, 1) := by decide +kernel
theorem dX12_clash_43 : decode cX12_clash 43 = .ok (.iaload, 1) := by decide +kernel
theorem dX12_clash_44 : decode cX12_clash 44 = .ok (.if_icmp .ne 69, 3) := by decide +kernel
theorem dX12_clash_47 : decode cX12_clash 47 = .ok (.aload_n 0, 1) := by decide +kernel
theorem dX12_clash_48 : decode cX12_clash 48 = .ok (.getfield 55, 3) := by decide +kernel
theorem dX12_clash_51 : decode cX12_clash 51 = .ok (.iload_n 3, 1) := by decide +kernel
theorem dX12_clash_52 : decode cX12_clash 52 = .ok (.baload, 1) := by decide +kernel
theorem dX12_clash_53 : decode cX12_clash 53 = .ok (.ifCond .ne 6, 3) := by decide +kernel
theorem dX12_clash_56 : decode cX12_clash 56 = .ok (.goto 57, 3) := by decide +kernel
theorem dX12_clash_59 : decode cX12_clash 59 = .ok (.aload_n 0, 1) := by decide +kernel
theorem dX12_clash_60 : decode cX12_clash 60 = .ok (.aload_n 0, 1) := by decide +kernel
theorem dX12_clash_61 : decode cX12_clash 61 = .ok (.getfield 49, 3) := by decide +kernel
theorem dX12_clash_64 : decode cX12_clash 64 = .ok (.iload_n 3, 1) := by decide +kernel
theorem dX12_clash_65 : decode cX12_clash 65 = .ok (.iaload, 1) := by decide +kernel
theorem dX12_clash_66 : decode cX12_clash 66 = .ok (.aload_n 0, 1) := by decide +kernel
theorem dX12_clash_67 : decode cX12_clash 67 = .ok (.getfield 52, 3) := by decide +kernel
theorem dX12_clash_70 : decode cX12_clash 70 = .ok (.iload_n 3, 1) := by decide +kernel
theorem dX12_clash_71 : decode cX12_clash 71 = .ok (.iaload, 1) := by decide +kernel
theorem dX12_clash_72 : decode cX12_clash 72 = .ok (.invokevirtual 248, 3) := by decide +kernel
theorem dX12_clash_75 : decode cX12_clash 75 = .ok (.istore 4, 2) := by decide +kernel
theorem dX12_clash_77 : decode cX12_clash 77 = .ok (.iload 4, 2) := by decide +kernel
theorem dX12_clash_79 : decode cX12_clash 79 = .ok (.ifCond .lt 34, 3) := by decide +kernel
theorem dX12_clash_82 : decode cX12_clash 82 = .ok (.aload_n 0, 1) := by decide +kernel
theorem dX12_clash_83 : decode cX12_clash 83 = .ok (.getfield 52, 3) := by decide +kernel
theorem dX12_clash_86 : decode cX12_clash 86 = .ok (.iload_n 3, 1) := by decide +kernel
theorem dX12_clash_87 : decode cX12_clash 87 = .ok (.iaload, 1) := by decide +kernel
theorem dX12_clash_88 : decode cX12_clash 88 = .ok (.aload_n 0, 1) := by decide +kernel
theorem dX12_clash_89 : decode cX12_clash 89 = .ok (.getfield 52, 3) := by decide +kernel
theorem dX12_clash_92 : decode cX12_clash 92 = .ok (.iload_n 1, 1) := by decide +kernel
theorem dX12_clash_93 : decode cX12_clash 93 = .ok (.iaload, 1) := by decide +kernel
theorem dX12_clash_94 : decode cX12_clash 94 = .ok (.isub, 1) := by decide +kernel
theorem dX12_clash_95 : decode cX12_clash 95 = .ok (.invokestatic 199, 3) := by decide +kernel
theorem dX12_clash_98 : decode cX12_clash 98 = .ok (.iload_n 2, 1) := by decide +kernel
theorem dX12_clash_99 : decode cX12_clash 99 = .ok (.iload 4, 2) := by decide +kernel
theorem dX12_clash_101 : decode cX12_clash 101 = .ok (.invokestatic 308, 3) := by decide +kernel
theorem dX12_clash_104 : decode cX12_clash 104 = .ok (.iconst 1, 1) := by decide +kernel
theorem dX12_clash_105 : decode cX12_clash 105 = .ok (.iadd, 1) := by decide +kernel
theorem dX12_clash_106 : decode cX12_clash 106 = .ok (.iconst 2, 1) := by decide +kernel
theorem dX12_clash_107 : decode cX12_clash 107 = .ok (.idiv, 1) := by decide +kernel
theorem dX12_clash_108 : decode cX12_clash 108 = .ok (.if_icmp .ge 5, 3) := by decide +kernel
theorem dX12_clash_111 : decode cX12_clash 111 = .ok (.iload_n 3, 1) := by decide +kernel
theorem dX12_clash_112 : decode cX12_clash 112 = .ok (.ireturn, 1) := by decide +kernel
theorem dX12_clash_113 : decode cX12_clash 113 = .ok (.iinc 3 1, 3) := by decide +kernel
theorem dX12_clash_116 : decode cX12_clash 116 = .ok (.goto (-97), 3) := by decide +kernel
theorem dX12_clash_119 : decode cX12_clash 119 = .ok (.iconst (-1), 1) := by decide +kernel
theorem dX12_clash_120 : decode cX12_clash 120 = .ok (.ireturn, 1) := by decide +kernel
theorem dX12_nextLog_0 : decode cX12_nextLog 0 = .ok (.iconst (-1), 1) := by decide +kernel
theorem dX12_nextLog_1 : decode cX12_nextLog 1 = .ok (.istore_n 3, 1) := by decide +kernel
theorem dX12_nextLog_2 : decode cX12_nextLog 2 = .ok (.iconst 0, 1) := by decide +kernel
theorem dX12_nextLog_3 : decode cX12_nextLog 3 = .ok (.istore 4, 2) := by decide +kernel
theorem dX12_nextLog_5 : decode cX12_nextLog 5 = .ok (.iload 4, 2) := by decide +kernel
theorem dX12_nextLog_7 : decode cX12_nextLog 7 = .ok (.aload_n 0, 1) := by decide +kernel
theorem dX12_nextLog_8 : decode cX12_nextLog 8 = .ok (.getfield 252, 3) := by decide +kernel
theorem dX12_nextLog_11 : decode cX12_nextLog 11 = .ok (.if_icmp .ge 63, 3) := by decide +kernel
theorem dX12_nextLog_14 : decode cX12_nextLog 14 = .ok (.iload 4, 2) := by decide +kernel
theorem dX12_nextLog_16 : decode cX12_nextLog 16 = .ok (.iload_n 1, 1) := by decide +kernel
theorem dX12_nextLog_17 : decode cX12_nextLog 17 = .ok (.if_icmp .eq 51, 3) := by decide +kernel
theorem dX12_nextLog_20 : decode cX12_nextLog 20 = .ok (.aload_n 0, 1) := by decide +kernel
theorem dX12_nextLog_21 : decode cX12_nextLog 21 = .ok (.getfield 49, 3) := by decide +kernel
theorem dX12_nextLog_24 : decode cX12_nextLog 24 = .ok (.iload 4, 2) := by decide +kernel
theorem dX12_nextLog_26 : decode cX12_nextLog 26 = .ok (.iaload, 1) := by decide +kernel
theorem dX12_nextLog_27 : decode cX12_nextLog 27 = .ok (.aload_n 0, 1) := by decide +kernel
theorem dX12_nextLog_28 : decode cX12_nextLog 28 = .ok (.getfield 49, 3) := by decide +kernel
theorem dX12_nextLog_31 : decode cX12_nextLog 31 = .ok (.iload_n 1, 1) := by decide +kernel
theorem dX12_nextLog_32 : decode cX12_nextLog 32 = .ok (.iaload, 1) := by decide +kernel
theorem dX12_nextLog_33 : decode cX12_nextLog 33 = .ok (.if_icmp .ne 35, 3) := by decide +kernel
theorem dX12_nextLog_36 : decode cX12_nextLog 36 = .ok (.aload_n 0, 1) := by decide +kernel
theorem dX12_nextLog_37 : decode cX12_nextLog 37 = .ok (.iload 4, 2) := by decide +kernel
theorem dX12_nextLog_39 : decode cX12_nextLog 39 = .ok (.iload_n 1, 1) := by decide +kernel
theorem dX12_nextLog_40 : decode cX12_nextLog 40 = .ok (.invokevirtual 270, 3) := by decide +kernel
theorem dX12_nextLog_43 : decode cX12_nextLog 43 = .ok (.iload_n 2, 1) := by decide +kernel
theorem dX12_nextLog_44 : decode cX12_nextLog 44 = .ok (.if_icmp .eq 6, 3) := by decide +kernel
theorem dX12_nextLog_47 : decode cX12_nextLog 47 = .ok (.goto 21, 3) := by decide +kernel
theorem dX12_nextLog_50 : decode cX12_nextLog 50 = .ok (.iload_n 3, 1) := by decide +kernel
theorem dX12_nextLog_51 : decode cX12_nextLog 51 = .ok (.ifCond .lt 14, 3) := by decide +kernel
theorem dX12_nextLog_54 : decode cX12_nextLog 54 = .ok (.aload_n 0, 1) := by decide +kernel
theorem dX12_nextLog_55 : decode cX12_nextLog 55 = .ok (.iload_n 3, 1) := by decide +kernel
theorem dX12_nextLog_56 : decode cX12_nextLog 56 = .ok (.iload 4, 2) := by decide +kernel
theorem dX12_nextLog_58 : decode cX12_nextLog 58 = .ok (.invokevirtual 270, 3) := by decide +kernel
theorem dX12_nextLog_61 : decode cX12_nextLog 61 = .ok (.iload_n 2, 1) := by decide +kernel
theorem dX12_nextLog_62 : decode cX12_nextLog 62 = .ok (.if_icmp .ne 6, 3) := by decide +kernel
theorem dX12_nextLog_65 : decode cX12_nextLog 65 = .ok (.iload 4, 2) := by decide +kernel
theorem dX12_nextLog_67 : decode cX12_nextLog 67 = .ok (.istore_n 3, 1) := by decide +kernel
theorem dX12_nextLog_68 : decode cX12_nextLog 68 = .ok (.iinc 4 1, 3) := by decide +kernel
theorem dX12_nextLog_71 : decode cX12_nextLog 71 = .ok (.goto (-66), 3) := by decide +kernel
theorem dX12_nextLog_74 : decode cX12_nextLog 74 = .ok (.iload_n 3, 1) := by decide +kernel
theorem dX12_nextLog_75 : decode cX12_nextLog 75 = .ok (.ireturn, 1) := by decide +kernel
theorem dX12_falseOf_0 : decode cX12_falseOf 0 = .ok (.aload_n 0, 1) := by decide +kernel
theorem dX12_falseOf_1 : decode cX12_falseOf 1 = .ok (.getfield 55, 3) := by decide +kernel
theorem dX12_falseOf_4 : decode cX12_falseOf 4 = .ok (.iload_n 1, 1) := by decide +kernel
theorem dX12_falseOf_5 : decode cX12_falseOf 5 = .ok (.baload, 1) := by decide +kernel
theorem dX12_falseOf_6 : decode cX12_falseOf 6 = .ok (.ifCond .ne 5, 3) := by decide +kernel
theorem dX12_falseOf_9 : decode cX12_falseOf 9 = .ok (.iconst 0, 1) := by decide +kernel
theorem dX12_falseOf_10 : decode cX12_falseOf 10 = .ok (.ireturn, 1) := by decide +kernel
theorem dX12_falseOf_11 : decode cX12_falseOf 11 = .ok (.aload_n 0, 1) := by decide +kernel
theorem dX12_falseOf_12 : decode cX12_falseOf 12 = .ok (.aload_n 0, 1) := by decide +kernel
theorem dX12_falseOf_13 : decode cX12_falseOf 13 = .ok (.getfield 49, 3) := by decide +kernel
theorem dX12_falseOf_16 : decode cX12_falseOf 16 = .ok (.iload_n 1, 1) := by decide +kernel
theorem dX12_falseOf_17 : decode cX12_falseOf 17 = .ok (.iaload, 1) := by decide +kernel
theorem dX12_falseOf_18 : decode cX12_falseOf 18 = .ok (.aload_n 0, 1) := by decide +kernel
theorem dX12_falseOf_19 : decode cX12_falseOf 19 = .ok (.getfield 52, 3) := by decide +kernel
theorem dX12_falseOf_22 : decode cX12_falseOf 22 = .ok (.iload_n 1, 1) := by decide +kernel
theorem dX12_falseOf_23 : decode cX12_falseOf 23 = .ok (.iaload, 1) := by decide +kernel
theorem dX12_falseOf_24 : decode cX12_falseOf 24 = .ok (.invokevirtual 248, 3) := by decide +kernel
theorem dX12_falseOf_27 : decode cX12_falseOf 27 = .ok (.ifCond .ge 5, 3) := by decide +kernel
theorem dX12_falseOf_30 : decode cX12_falseOf 30 = .ok (.iconst 1, 1) := by decide +kernel
theorem dX12_falseOf_31 : decode cX12_falseOf 31 = .ok (.ireturn, 1) := by decide +kernel
theorem dX12_falseOf_32 : decode cX12_falseOf 32 = .ok (.aload_n 0, 1) := by decide +kernel
theorem dX12_falseOf_33 : decode cX12_falseOf 33 = .ok (.iload_n 1, 1) := by decide +kernel
theorem dX12_falseOf_34 : decode cX12_falseOf 34 = .ok (.invokevirtual 311, 3) := by decide +kernel
theorem dX12_falseOf_37 : decode cX12_falseOf 37 = .ok (.ifCond .lt 5, 3) := by decide +kernel
theorem dX12_falseOf_40 : decode cX12_falseOf 40 = .ok (.iconst 2, 1) := by decide +kernel
theorem dX12_falseOf_41 : decode cX12_falseOf 41 = .ok (.ireturn, 1) := by decide +kernel
theorem dX12_falseOf_42 : decode cX12_falseOf 42 = .ok (.aload_n 0, 1) := by decide +kernel
theorem dX12_falseOf_43 : decode cX12_falseOf 43 = .ok (.getfield 49, 3) := by decide +kernel
theorem dX12_falseOf_46 : decode cX12_falseOf 46 = .ok (.iload_n 1, 1) := by decide +kernel
theorem dX12_falseOf_47 : decode cX12_falseOf 47 = .ok (.iaload, 1) := by decide +kernel
theorem dX12_falseOf_48 : decode cX12_falseOf 48 = .ok (.istore_n 2, 1) := by decide +kernel
theorem dX12_falseOf_49 : decode cX12_falseOf 49 = .ok (.aload_n 0, 1) := by decide +kernel
theorem dX12_falseOf_50 : decode cX12_falseOf 50 = .ok (.getfield 13, 3) := by decide +kernel
theorem dX12_falseOf_53 : decode cX12_falseOf 53 = .ok (.iload_n 2, 1) := by decide +kernel
theorem dX12_falseOf_54 : decode cX12_falseOf 54 = .ok (.iaload, 1) := by decide +kernel
theorem dX12_falseOf_55 : decode cX12_falseOf 55 = .ok (.iconst 5, 1) := by decide +kernel
theorem dX12_falseOf_56 : decode cX12_falseOf 56 = .ok (.if_icmp .ne 24, 3) := by decide +kernel
theorem dX12_falseOf_59 : decode cX12_falseOf 59 = .ok (.aload_n 0, 1) := by decide +kernel
theorem dX12_falseOf_60 : decode cX12_falseOf 60 = .ok (.getfield 52, 3) := by decide +kernel
theorem dX12_falseOf_63 : decode cX12_falseOf 63 = .ok (.iload_n 1, 1) := by decide +kernel
theorem dX12_falseOf_64 : decode cX12_falseOf 64 = .ok (.iaload, 1) := by decide +kernel
theorem dX12_falseOf_65 : decode cX12_falseOf 65 = .ok (.bipush 24, 2) := by decide +kernel
theorem dX12_falseOf_67 : decode cX12_falseOf 67 = .ok (.irem, 1) := by decide +kernel
theorem dX12_falseOf_68 : decode cX12_falseOf 68 = .ok (.bipush 6, 2) := by decide +kernel
theorem dX12_falseOf_70 : decode cX12_falseOf 70 = .ok (.bipush 19, 2) := by decide +kernel
theorem dX12_falseOf_72 : decode cX12_falseOf 72 = .ok (.invokestatic 195, 3) := by decide +kernel
theorem dX12_falseOf_75 : decode cX12_falseOf 75 = .ok (.ifCond .eq 5, 3) := by decide +kernel
theorem dX12_falseOf_78 : decode cX12_falseOf 78 = .ok (.iconst 3, 1) := by decide +kernel
theorem dX12_falseOf_79 : decode cX12_falseOf 79 = .ok (.ireturn, 1) := by decide +kernel
theorem dX12_falseOf_80 : decode cX12_falseOf 80 = .ok (.aload_n 0, 1) := by decide +kernel
theorem dX12_falseOf_81 : decode cX12_falseOf 81 = .ok (.iload_n 1, 1) := by decide +kernel
theorem dX12_falseOf_82 : decode cX12_falseOf 82 = .ok (.iconst 0, 1) := by decide +kernel
theorem dX12_falseOf_83 : decode cX12_falseOf 83 = .ok (.invokevirtual 314, 3) := by decide +kernel
theorem dX12_falseOf_86 : decode cX12_falseOf 86 = .ok (.istore_n 3, 1) := by decide +kernel
theorem dX12_falseOf_87 : decode cX12_falseOf 87 = .ok (.aload_n 0, 1) := by decide +kernel
theorem dX12_falseOf_88 : decode cX12_falseOf 88 = .ok (.iload_n 1, 1) := by decide +kernel
theorem dX12_falseOf_89 : decode cX12_falseOf 89 = .ok (.iconst 1, 1) := by decide +kernel
theorem dX12_falseOf_90 : decode cX12_falseOf 90 = .ok (.invokevirtual 314, 3) := by decide +kernel
theorem dX12_falseOf_93 : decode cX12_falseOf 93 = .ok (.istore 4, 2) := by decide +kernel
theorem dX12_falseOf_95 : decode cX12_falseOf 95 = .ok (.aload_n 0, 1) := by decide +kernel
theorem dX12_falseOf_96 : decode cX12_falseOf 96 = .ok (.getfield 59, 3) := by decide +kernel
theorem dX12_falseOf_99 : decode cX12_falseOf 99 = .ok (.iload_n 2, 1) := by decide +kernel
theorem dX12_falseOf_100 : decode cX12_falseOf 100 = .ok (.iaload, 1) := by decide +kernel
theorem dX12_falseOf_101 : decode cX12_falseOf 101 = .ok (.ifCond .lt 49, 3) := by decide +kernel
theorem dX12_falseOf_104 : decode cX12_falseOf 104 = .ok (.aload_n 0, 1) := by decide +kernel
theorem dX12_falseOf_105 : decode cX12_falseOf 105 = .ok (.aload_n 0, 1) := by decide +kernel
theorem dX12_falseOf_106 : decode cX12_falseOf 106 = .ok (.getfield 46, 3) := by decide +kernel
theorem dX12_falseOf_109 : decode cX12_falseOf 109 = .ok (.iload_n 1, 1) := by decide +kernel
theorem dX12_falseOf_110 : decode cX12_falseOf 110 = .ok (.iaload, 1) := by decide +kernel
theorem dX12_falseOf_111 : decode cX12_falseOf 111 = .ok (.iload_n 2, 1) := by decide +kernel
theorem dX12_falseOf_112 : decode cX12_falseOf 112 = .ok (.invokevirtual 282, 3) := by decide +kernel
theorem dX12_falseOf_115 : decode cX12_falseOf 115 = .ok (.ifCond .ne 35, 3) := by decide +kernel
theorem dX12_falseOf_118 : decode cX12_falseOf 118 = .ok (.iload_n 3, 1) := by decide +kernel
theorem dX12_falseOf_119 : decode cX12_falseOf 119 = .ok (.ifCond .lt 31, 3) := by decide +kernel
theorem dX12_falseOf_122 : decode cX12_falseOf 122 = .ok (.iload 4, 2) := by decide +kernel
theorem dX12_falseOf_124 : decode cX12_falseOf 124 = .ok (.ifCond .lt 26, 3) := by decide +kernel
theorem dX12_falseOf_127 : decode cX12_falseOf 127 = .ok (.aload_n 0, 1) := by decide +kernel
theorem dX12_falseOf_128 : decode cX12_falseOf 128 = .ok (.getfield 55, 3) := by decide +kernel
theorem dX12_falseOf_131 : decode cX12_falseOf 131 = .ok (.iload_n 3, 1) := by decide +kernel
theorem dX12_falseOf_132 : decode cX12_falseOf 132 = .ok (.baload, 1) := by decide +kernel
theorem dX12_falseOf_133 : decode cX12_falseOf 133 = .ok (.ifCond .ne 17, 3) := by decide +kernel
theorem dX12_falseOf_136 : decode cX12_falseOf 136 = .ok (.aload_n 0, 1) := by decide +kernel
theorem dX12_falseOf_137 : decode cX12_falseOf 137 = .ok (.getfield 55, 3) := by decide +kernel
theorem dX12_falseOf_140 : decode cX12_falseOf 140 = .ok (.iload 4, 2) := by decide +kernel
theorem dX12_falseOf_142 : decode cX12_falseOf 142 = .ok (.baload, 1) := by decide +kernel
theorem dX12_falseOf_143 : decode cX12_falseOf 143 = .ok (.ifCond .ne 7, 3) := by decide +kernel
theorem dX12_falseOf_146 : decode cX12_falseOf 146 = .ok (.iconst 4, 1) := by decide +kernel
theorem dX12_falseOf_147 : decode cX12_falseOf 147 = .ok (.goto 4, 3) := by decide +kernel
theorem dX12_falseOf_150 : decode cX12_falseOf 150 = .ok (.iconst 0, 1) := by decide +kernel
theorem dX12_falseOf_151 : decode cX12_falseOf 151 = .ok (.ireturn, 1) := by decide +kernel
theorem dX12_isLog_0 : decode cX12_isLog 0 = .ok (.iload_n 1, 1) := by decide +kernel
theorem dX12_isLog_1 : decode cX12_isLog 1 = .ok (.iconst 0, 1) := by decide +kernel
theorem dX12_isLog_2 : decode cX12_isLog 2 = .ok (.aload_n 0, 1) := by decide +kernel
theorem dX12_isLog_3 : decode cX12_isLog 3 = .ok (.getfield 252, 3) := by decide +kernel
theorem dX12_isLog_6 : decode cX12_isLog 6 = .ok (.iconst 1, 1) := by decide +kernel
theorem dX12_isLog_7 : decode cX12_isLog 7 = .ok (.isub, 1) := by decide +kernel
theorem dX12_isLog_8 : decode cX12_isLog 8 = .ok (.invokestatic 195, 3) := by decide +kernel
theorem dX12_isLog_11 : decode cX12_isLog 11 = .ok (.ireturn, 1) := by decide +kernel
theorem dX12_isFalse_0 : decode cX12_isFalse 0 = .ok (.aload_n 0, 1) := by decide +kernel
theorem dX12_isFalse_1 : decode cX12_isFalse 1 = .ok (.iload_n 1, 1) := by decide +kernel
theorem dX12_isFalse_2 : decode cX12_isFalse 2 = .ok (.invokevirtual 318, 3) := by decide +kernel
theorem dX12_isFalse_5 : decode cX12_isFalse 5 = .ok (.ifCond .eq 12, 3) := by decide +kernel
theorem dX12_isFalse_8 : decode cX12_isFalse 8 = .ok (.iload_n 2, 1) := by decide +kernel
theorem dX12_isFalse_9 : decode cX12_isFalse 9 = .ok (.iconst 0, 1) := by decide +kernel
theorem dX12_isFalse_10 : decode cX12_isFalse 10 = .ok (.iconst 1, 1) := by decide +kernel
theorem dX12_isFalse_11 : decode cX12_isFalse 11 = .ok (.invokestatic 195, 3) := by decide +kernel
theorem dX12_isFalse_14 : decode cX12_isFalse 14 = .ok (.ifCond .ne 5, 3) := by decide +kernel
theorem dX12_isFalse_17 : decode cX12_isFalse 17 = .ok (.iconst (-1), 1) := by decide +kernel
theorem dX12_isFalse_18 : decode cX12_isFalse 18 = .ok (.ireturn, 1) := by decide +kernel
theorem dX12_isFalse_19 : decode cX12_isFalse 19 = .ok (.aload_n 0, 1) := by decide +kernel
theorem dX12_isFalse_20 : decode cX12_isFalse 20 = .ok (.iload_n 1, 1) := by decide +kernel
theorem dX12_isFalse_21 : decode cX12_isFalse 21 = .ok (.invokevirtual 321, 3) := by decide +kernel
theorem dX12_isFalse_24 : decode cX12_isFalse 24 = .ok (.istore_n 3, 1) := by decide +kernel
theorem dX12_isFalse_25 : decode cX12_isFalse 25 = .ok (.iload_n 2, 1) := by decide +kernel
theorem dX12_isFalse_26 : decode cX12_isFalse 26 = .ok (.ifCond .ne 7, 3) := by decide +kernel
theorem dX12_isFalse_29 : decode cX12_isFalse 29 = .ok (.iload_n 3, 1) := by decide +kernel
theorem dX12_isFalse_30 : decode cX12_isFalse 30 = .ok (.goto 17, 3) := by decide +kernel
theorem dX12_isFalse_33 : decode cX12_isFalse 33 = .ok (.iload_n 3, 1) := by decide +kernel
theorem dX12_isFalse_34 : decode cX12_isFalse 34 = .ok (.iconst 2, 1) := by decide +kernel
theorem dX12_isFalse_35 : decode cX12_isFalse 35 = .ok (.if_icmp .ne 11, 3) := by decide +kernel
theorem dX12_isFalse_38 : decode cX12_isFalse 38 = .ok (.aload_n 0, 1) := by decide +kernel
theorem dX12_isFalse_39 : decode cX12_isFalse 39 = .ok (.iload_n 1, 1) := by decide +kernel
theorem dX12_isFalse_40 : decode cX12_isFalse 40 = .ok (.invokevirtual 311, 3) := by decide +kernel
theorem dX12_isFalse_43 : decode cX12_isFalse 43 = .ok (.goto 4, 3) := by decide +kernel
theorem dX12_isFalse_46 : decode cX12_isFalse 46 = .ok (.iconst (-1), 1) := by decide +kernel
theorem dX12_isFalse_47 : decode cX12_isFalse 47 = .ok (.ireturn, 1) := by decide +kernel
theorem dX12_gone_0 : decode cX12_gone 0 = .ok (.aload_n 0, 1) := by decide +kernel
theorem dX12_gone_1 : decode cX12_gone 1 = .ok (.iload_n 1, 1) := by decide +kernel
theorem dX12_gone_2 : decode cX12_gone 2 = .ok (.invokevirtual 224, 3) := by decide +kernel
theorem dX12_gone_5 : decode cX12_gone 5 = .ok (.ifCond .eq 12, 3) := by decide +kernel
theorem dX12_gone_8 : decode cX12_gone 8 = .ok (.iload_n 2, 1) := by decide +kernel
theorem dX12_gone_9 : decode cX12_gone 9 = .ok (.iconst 0, 1) := by decide +kernel
theorem dX12_gone_10 : decode cX12_gone 10 = .ok (.iconst 2, 1) := by decide +kernel
theorem dX12_gone_11 : decode cX12_gone 11 = .ok (.invokestatic 195, 3) := by decide +kernel
theorem dX12_gone_14 : decode cX12_gone 14 = .ok (.ifCond .ne 5, 3) := by decide +kernel
theorem dX12_gone_17 : decode cX12_gone 17 = .ok (.iconst (-1), 1) := by decide +kernel
theorem dX12_gone_18 : decode cX12_gone 18 = .ok (.ireturn, 1) := by decide +kernel
theorem dX12_gone_19 : decode cX12_gone 19 = .ok (.aload_n 0, 1) := by decide +kernel
theorem dX12_gone_20 : decode cX12_gone 20 = .ok (.iload_n 1, 1) := by decide +kernel
theorem dX12_gone_21 : decode cX12_gone 21 = .ok (.invokevirtual 267, 3) := by decide +kernel
theorem dX12_gone_24 : decode cX12_gone 24 = .ok (.istore_n 3, 1) := by decide +kernel
theorem dX12_gone_25 : decode cX12_gone 25 = .ok (.iload_n 2, 1) := by decide +kernel
theorem dX12_gone_26 : decode cX12_gone 26 = .ok (.ifCond .ne 22, 3) := by decide +kernel
theorem dX12_gone_29 : decode cX12_gone 29 = .ok (.iload_n 3, 1) := by decide +kernel
theorem dX12_gone_30 : decode cX12_gone 30 = .ok (.iconst 3, 1) := by decide +kernel
theorem dX12_gone_31 : decode cX12_gone 31 = .ok (.if_icmp .lt 7, 3) := by decide +kernel
theorem dX12_gone_34 : decode cX12_gone 34 = .ok (.iconst 2, 1) := by decide +kernel
theorem dX12_gone_35 : decode cX12_gone 35 = .ok (.goto 12, 3) := by decide +kernel
theorem dX12_gone_38 : decode cX12_gone 38 = .ok (.iload_n 3, 1) := by decide +kernel
theorem dX12_gone_39 : decode cX12_gone 39 = .ok (.ifCond .le 7, 3) := by decide +kernel
theorem dX12_gone_42 : decode cX12_gone 42 = .ok (.iconst 1, 1) := by decide +kernel
theorem dX12_gone_43 : decode cX12_gone 43 = .ok (.goto 4, 3) := by decide +kernel
theorem dX12_gone_46 : decode cX12_gone 46 = .ok (.iconst 0, 1) := by decide +kernel
theorem dX12_gone_47 : decode cX12_gone 47 = .ok (.ireturn, 1) := by decide +kernel
theorem dX12_gone_48 : decode cX12_gone 48 = .ok (.iload_n 3, 1) := by decide +kernel
theorem dX12_gone_49 : decode cX12_gone 49 = .ok (.iconst 3, 1) := by decide +kernel
theorem dX12_gone_50 : decode cX12_gone 50 = .ok (.if_icmp .ge 6, 3) := by decide +kernel
theorem dX12_gone_53 : decode cX12_gone 53 = .ok (.bipush (-2), 2) := by decide +kernel
theorem dX12_gone_55 : decode cX12_gone 55 = .ok (.ireturn, 1) := by decide +kernel
theorem dX12_gone_56 : decode cX12_gone 56 = .ok (.aload_n 0, 1) := by decide +kernel
theorem dX12_gone_57 : decode cX12_gone 57 = .ok (.iload_n 1, 1) := by decide +kernel
theorem dX12_gone_58 : decode cX12_gone 58 = .ok (.invokevirtual 273, 3) := by decide +kernel
theorem dX12_gone_61 : decode cX12_gone 61 = .ok (.istore 4, 2) := by decide +kernel
theorem dX12_gone_63 : decode cX12_gone 63 = .ok (.iload_n 2, 1) := by decide +kernel
theorem dX12_gone_64 : decode cX12_gone 64 = .ok (.iconst 1, 1) := by decide +kernel
theorem dX12_gone_65 : decode cX12_gone 65 = .ok (.if_icmp .ne 28, 3) := by decide +kernel
theorem dX12_gone_68 : decode cX12_gone 68 = .ok (.iload 4, 2) := by decide +kernel
theorem dX12_gone_70 : decode cX12_gone 70 = .ok (.ifCond .ge 15, 3) := by decide +kernel
theorem dX12_gone_73 : decode cX12_gone 73 = .ok (.bipush 24, 2) := by decide +kernel
theorem dX12_gone_75 : decode cX12_gone 75 = .ok (.aload_n 0, 1) := by decide +kernel
theorem dX12_gone_76 : decode cX12_gone 76 = .ok (.getfield 19, 3) := by decide +kernel
theorem dX12_gone_79 : decode cX12_gone 79 = .ok (.iload_n 1, 1) := by decide +kernel
theorem dX12_gone_80 : decode cX12_gone 80 = .ok (.iaload, 1) := by decide +kernel
theorem dX12_gone_81 : decode cX12_gone 81 = .ok (.imul, 1) := by decide +kernel
theorem dX12_gone_82 : decode cX12_gone 82 = .ok (.goto 10, 3) := by decide +kernel
theorem dX12_gone_85 : decode cX12_gone 85 = .ok (.aload_n 0, 1) := by decide +kernel
theorem dX12_gone_86 : decode cX12_gone 86 = .ok (.getfield 52, 3) := by decide +kernel
theorem dX12_gone_89 : decode cX12_gone 89 = .ok (.iload 4, 2) := by decide +kernel
theorem dX12_gone_91 : decode cX12_gone 91 = .ok (.iaload, 1) := by decide +kernel
theorem dX12_gone_92 : decode cX12_gone 92 = .ok (.ireturn, 1) := by decide +kernel
theorem dX12_gone_93 : decode cX12_gone 93 = .ok (.iconst (-1), 1) := by decide +kernel
theorem dX12_gone_94 : decode cX12_gone 94 = .ok (.istore 5, 2) := by decide +kernel
theorem dX12_gone_96 : decode cX12_gone 96 = .ok (.iconst 0, 1) := by decide +kernel
theorem dX12_gone_97 : decode cX12_gone 97 = .ok (.istore 6, 2) := by decide +kernel
theorem dX12_gone_99 : decode cX12_gone 99 = .ok (.iload 6, 2) := by decide +kernel
theorem dX12_gone_101 : decode cX12_gone 101 = .ok (.aload_n 0, 1) := by decide +kernel
theorem dX12_gone_102 : decode cX12_gone 102 = .ok (.getfield 252, 3) := by decide +kernel
theorem dX12_gone_105 : decode cX12_gone 105 = .ok (.if_icmp .ge 69, 3) := by decide +kernel
theorem dX12_gone_108 : decode cX12_gone 108 = .ok (.aload_n 0, 1) := by decide +kernel
theorem dX12_gone_109 : decode cX12_gone 109 = .ok (.getfield 49, 3) := by decide +kernel
theorem dX12_gone_112 : decode cX12_gone 112 = .ok (.iload 6, 2) := by decide +kernel
theorem dX12_gone_114 : decode cX12_gone 114 = .ok (.iaload, 1) := by decide +kernel
theorem dX12_gone_115 : decode cX12_gone 115 = .ok (.iload_n 1, 1) := by decide +kernel
theorem dX12_gone_116 : decode cX12_gone 116 = .ok (.if_icmp .ne 52, 3) := by decide +kernel
theorem dX12_gone_119 : decode cX12_gone 119 = .ok (.aload_n 0, 1) := by decide +kernel
theorem dX12_gone_120 : decode cX12_gone 120 = .ok (.getfield 55, 3) := by decide +kernel
theorem dX12_gone_123 : decode cX12_gone 123 = .ok (.iload 6, 2) := by decide +kernel
theorem dX12_gone_125 : decode cX12_gone 125 = .ok (.baload, 1) := by decide +kernel
theorem dX12_gone_126 : decode cX12_gone 126 = .ok (.ifCond .ne 42, 3) := by decide +kernel
theorem dX12_gone_129 : decode cX12_gone 129 = .ok (.iload 4, 2) := by decide +kernel
theorem dX12_gone_131 : decode cX12_gone 131 = .ok (.ifCond .lt 17, 3) := by decide +kernel
theorem dX12_gone_134 : decode cX12_gone 134 = .ok (.aload_n 0, 1) := by decide +kernel
theorem dX12_gone_135 : decode cX12_gone 135 = .ok (.iload 6, 2) := by decide +kernel
theorem dX12_gone_137 : decode cX12_gone 137 = .ok (.iload 4, 2) := by decide +kernel
theorem dX12_gone_139 : decode cX12_gone 139 = .ok (.invokevirtual 270, 3) := by decide +kernel
theorem dX12_gone_142 : decode cX12_gone 142 = .ok (.ifCond .ne 6, 3) := by decide +kernel
theorem dX12_gone_145 : decode cX12_gone 145 = .ok (.goto 23, 3) := by decide +kernel
theorem dX12_gone_148 : decode cX12_gone 148 = .ok (.iload 5, 2) := by decide +kernel
theorem dX12_gone_150 : decode cX12_gone 150 = .ok (.ifCond .lt 14, 3) := by decide +kernel
theorem dX12_gone_153 : decode cX12_gone 153 = .ok (.aload_n 0, 1) := by decide +kernel
theorem dX12_gone_154 : decode cX12_gone 154 = .ok (.iload 5, 2) := by decide +kernel
theorem dX12_gone_156 : decode cX12_gone 156 = .ok (.iload 6, 2) := by decide +kernel
theorem dX12_gone_158 : decode cX12_gone 158 = .ok (.invokevirtual 270, 3) := by decide +kernel
theorem dX12_gone_161 : decode cX12_gone 161 = .ok (.ifCond .eq 7, 3) := by decide +kernel
theorem dX12_gone_164 : decode cX12_gone 164 = .ok (.iload 6, 2) := by decide +kernel
theorem dX12_gone_166 : decode cX12_gone 166 = .ok (.istore 5, 2) := by decide +kernel
theorem dX12_gone_168 : decode cX12_gone 168 = .ok (.iinc 6 1, 3) := by decide +kernel
theorem dX12_gone_171 : decode cX12_gone 171 = .ok (.goto (-72), 3) := by decide +kernel
theorem dX12_gone_174 : decode cX12_gone 174 = .ok (.aload_n 0, 1) := by decide +kernel
theorem dX12_gone_175 : decode cX12_gone 175 = .ok (.getfield 52, 3) := by decide +kernel
theorem dX12_gone_178 : decode cX12_gone 178 = .ok (.iload 5, 2) := by decide +kernel
theorem dX12_gone_180 : decode cX12_gone 180 = .ok (.iaload, 1) := by decide +kernel
theorem dX12_gone_181 : decode cX12_gone 181 = .ok (.ireturn, 1) := by decide +kernel
theorem dX12_foundBy_0 : decode cX12_foundBy 0 = .ok (.iconst 0, 1) := by decide +kernel
theorem dX12_foundBy_1 : decode cX12_foundBy 1 = .ok (.istore_n 2, 1) := by decide +kernel
theorem dX12_foundBy_2 : decode cX12_foundBy 2 = .ok (.iconst 0, 1) := by decide +kernel
theorem dX12_foundBy_3 : decode cX12_foundBy 3 = .ok (.istore_n 3, 1) := by decide +kernel
theorem dX12_foundBy_4 : decode cX12_foundBy 4 = .ok (.iload_n 3, 1) := by decide +kernel
theorem dX12_foundBy_5 : decode cX12_foundBy 5 = .ok (.aload_n 0, 1) := by decide +kernel
theorem dX12_foundBy_6 : decode cX12_foundBy 6 = .ok (.getfield 252, 3) := by decide +kernel
theorem dX12_foundBy_9 : decode cX12_foundBy 9 = .ok (.if_icmp .ge 36, 3) := by decide +kernel
theorem dX12_foundBy_12 : decode cX12_foundBy 12 = .ok (.iload_n 2, 1) := by decide +kernel
theorem dX12_foundBy_13 : decode cX12_foundBy 13 = .ok (.aload_n 0, 1) := by decide +kernel
theorem dX12_foundBy_14 : decode cX12_foundBy 14 = .ok (.getfield 46, 3) := by decide +kernel
theorem dX12_foundBy_17 : decode cX12_foundBy 17 = .ok (.iload_n 3, 1) := by decide +kernel
theorem dX12_foundBy_18 : decode cX12_foundBy 18 = .ok (.iaload, 1) := by decide +kernel
theorem dX12_foundBy_19 : decode cX12_foundBy 19 = .ok (.iload_n 1, 1) := by decide +kernel
theorem dX12_foundBy_20 : decode cX12_foundBy 20 = .ok (.if_icmp .ne 16, 3) := by decide +kernel
theorem dX12_foundBy_23 : decode cX12_foundBy 23 = .ok (.aload_n 0, 1) := by decide +kernel
theorem dX12_foundBy_24 : decode cX12_foundBy 24 = .ok (.getfield 55, 3) := by decide +kernel
theorem dX12_foundBy_27 : decode cX12_foundBy 27 = .ok (.iload_n 3, 1) := by decide +kernel
theorem dX12_foundBy_28 : decode cX12_foundBy 28 = .ok (.baload, 1) := by decide +kernel
theorem dX12_foundBy_29 : decode cX12_foundBy 29 = .ok (.ifCond .eq 7, 3) := by decide +kernel
theorem dX12_foundBy_32 : decode cX12_foundBy 32 = .ok (.iconst 1, 1) := by decide +kernel
theorem dX12_foundBy_33 : decode cX12_foundBy 33 = .ok (.goto 4, 3) := by decide +kernel
theorem dX12_foundBy_36 : decode cX12_foundBy 36 = .ok (.iconst 0, 1) := by decide +kernel
theorem dX12_foundBy_37 : decode cX12_foundBy 37 = .ok (.iadd, 1) := by decide +kernel
theorem dX12_foundBy_38 : decode cX12_foundBy 38 = .ok (.istore_n 2, 1) := by decide +kernel
theorem dX12_foundBy_39 : decode cX12_foundBy 39 = .ok (.iinc 3 1, 3) := by decide +kernel
theorem dX12_foundBy_42 : decode cX12_foundBy 42 = .ok (.goto (-38), 3) := by decide +kernel
theorem dX12_foundBy_45 : decode cX12_foundBy 45 = .ok (.iload_n 2, 1) := by decide +kernel
theorem dX12_foundBy_46 : decode cX12_foundBy 46 = .ok (.ireturn, 1) := by decide +kernel
theorem dX12_chance_0 : decode cX12_chance 0 = .ok (.iload_n 1, 1) := by decide +kernel
theorem dX12_chance_1 : decode cX12_chance 1 = .ok (.iconst 0, 1) := by decide +kernel
theorem dX12_chance_2 : decode cX12_chance 2 = .ok (.iconst 1, 1) := by decide +kernel
theorem dX12_chance_3 : decode cX12_chance 3 = .ok (.invokestatic 195, 3) := by decide +kernel
theorem dX12_chance_6 : decode cX12_chance 6 = .ok (.ifCond .ne 5, 3) := by decide +kernel
theorem dX12_chance_9 : decode cX12_chance 9 = .ok (.iconst (-1), 1) := by decide +kernel
theorem dX12_chance_10 : decode cX12_chance 10 = .ok (.ireturn, 1) := by decide +kernel
theorem dX12_chance_11 : decode cX12_chance 11 = .ok (.iconst 0, 1) := by decide +kernel
theorem dX12_chance_12 : decode cX12_chance 12 = .ok (.istore_n 2, 1) := by decide +kernel
theorem dX12_chance_13 : decode cX12_chance 13 = .ok (.iconst 0, 1) := by decide +kernel
theorem dX12_chance_14 : decode cX12_chance 14 = .ok (.istore_n 3, 1) := by decide +kernel
theorem dX12_chance_15 : decode cX12_chance 15 = .ok (.iload_n 3, 1) := by decide +kernel
theorem dX12_chance_16 : decode cX12_chance 16 = .ok (.aload_n 0, 1) := by decide +kernel
theorem dX12_chance_17 : decode cX12_chance 17 = .ok (.getfield 252, 3) := by decide +kernel
theorem dX12_chance_20 : decode cX12_chance 20 = .ok (.if_icmp .ge 53, 3) := by decide +kernel
theorem dX12_chance_23 : decode cX12_chance 23 = .ok (.aload_n 0, 1) := by decide +kernel
theorem dX12_chance_24 : decode cX12_chance 24 = .ok (.getfield 55, 3) := by decide +kernel
theorem dX12_chance_27 : decode cX12_chance 27 = .ok (.iload_n 3, 1) := by decide +kernel
theorem dX12_chance_28 : decode cX12_chance 28 = .ok (.baload, 1) := by decide +kernel
theorem dX12_chance_29 : decode cX12_chance 29 = .ok (.ifCond .eq 38, 3) := by decide +kernel
theorem dX12_chance_32 : decode cX12_chance 32 = .ok (.aload_n 0, 1) := by decide +kernel
theorem dX12_chance_33 : decode cX12_chance 33 = .ok (.aload_n 0, 1) := by decide +kernel
theorem dX12_chance_34 : decode cX12_chance 34 = .ok (.getfield 46, 3) := by decide +kernel
theorem dX12_chance_37 : decode cX12_chance 37 = .ok (.iload_n 3, 1) := by decide +kernel
theorem dX12_chance_38 : decode cX12_chance 38 = .ok (.iaload, 1) := by decide +kernel
theorem dX12_chance_39 : decode cX12_chance 39 = .ok (.invokevirtual 324, 3) := by decide +kernel
theorem dX12_chance_42 : decode cX12_chance 42 = .ok (.iconst 1, 1) := by decide +kernel
theorem dX12_chance_43 : decode cX12_chance 43 = .ok (.if_icmp .le 24, 3) := by decide +kernel
theorem dX12_chance_46 : decode cX12_chance 46 = .ok (.iload_n 2, 1) := by decide +kernel
theorem dX12_chance_47 : decode cX12_chance 47 = .ok (.iload_n 1, 1) := by decide +kernel
theorem dX12_chance_48 : decode cX12_chance 48 = .ok (.ifCond .eq 12, 3) := by decide +kernel
theorem dX12_chance_51 : decode cX12_chance 51 = .ok (.aload_n 0, 1) := by decide +kernel
theorem dX12_chance_52 : decode cX12_chance 52 = .ok (.iload_n 3, 1) := by decide +kernel
theorem dX12_chance_53 : decode cX12_chance 53 = .ok (.invokevirtual 321, 3) := by decide +kernel
theorem dX12_chance_56 : decode cX12_chance 56 = .ok (.iconst 2, 1) := by decide +kernel
theorem dX12_chance_57 : decode cX12_chance 57 = .ok (.if_icmp .ne 7, 3) := by decide +kernel
theorem dX12_chance_60 : decode cX12_chance 60 = .ok (.iconst 1, 1) := by decide +kernel
theorem dX12_chance_61 : decode cX12_chance 61 = .ok (.goto 4, 3) := by decide +kernel
theorem dX12_chance_64 : decode cX12_chance 64 = .ok (.iconst 0, 1) := by decide +kernel
theorem dX12_chance_65 : decode cX12_chance 65 = .ok (.iadd, 1) := by decide +kernel
theorem dX12_chance_66 : decode cX12_chance 66 = .ok (.istore_n 2, 1) := by decide +kernel
theorem dX12_chance_67 : decode cX12_chance 67 = .ok (.iinc 3 1, 3) := by decide +kernel
theorem dX12_chance_70 : decode cX12_chance 70 = .ok (.goto (-55), 3) := by decide +kernel
theorem dX12_chance_73 : decode cX12_chance 73 = .ok (.iload_n 2, 1) := by decide +kernel
theorem dX12_chance_74 : decode cX12_chance 74 = .ok (.ireturn, 1) := by decide +kernel
theorem dX12_feed_0 : decode cX12_feed 0 = .ok (.iload_n 1, 1) := by decide +kernel
theorem dX12_feed_1 : decode cX12_feed 1 = .ok (.iconst 1, 1) := by decide +kernel
theorem dX12_feed_2 : decode cX12_feed 2 = .ok (.iconst 4, 1) := by decide +kernel
theorem dX12_feed_3 : decode cX12_feed 3 = .ok (.invokestatic 195, 3) := by decide +kernel
theorem dX12_feed_6 : decode cX12_feed 6 = .ok (.ifCond .ne 5, 3) := by decide +kernel
theorem dX12_feed_9 : decode cX12_feed 9 = .ok (.iconst (-1), 1) := by decide +kernel
theorem dX12_feed_10 : decode cX12_feed 10 = .ok (.ireturn, 1) := by decide +kernel
theorem dX12_feed_11 : decode cX12_feed 11 = .ok (.aload_n 0, 1) := by decide +kernel
theorem dX12_feed_12 : decode cX12_feed 12 = .ok (.getfield 327, 3) := by decide +kernel
theorem dX12_feed_15 : decode cX12_feed 15 = .ok (.iload_n 1, 1) := by decide +kernel
theorem dX12_feed_16 : decode cX12_feed 16 = .ok (.iadd, 1) := by decide +kernel
theorem dX12_feed_17 : decode cX12_feed 17 = .ok (.sipush 160, 3) := by decide +kernel
theorem dX12_feed_20 : decode cX12_feed 20 = .ok (.if_icmp .le 6, 3) := by decide +kernel
theorem dX12_feed_23 : decode cX12_feed 23 = .ok (.bipush (-3), 2) := by decide +kernel
theorem dX12_feed_25 : decode cX12_feed 25 = .ok (.ireturn, 1) := by decide +kernel
theorem dX12_feed_26 : decode cX12_feed 26 = .ok (.iconst 0, 1) := by decide +kernel
theorem dX12_feed_27 : decode cX12_feed 27 = .ok (.istore_n 3, 1) := by decide +kernel
theorem dX12_feed_28 : decode cX12_feed 28 = .ok (.iload_n 3, 1) := by decide +kernel
theorem dX12_feed_29 : decode cX12_feed 29 = .ok (.iload_n 1, 1) := by decide +kernel
theorem dX12_feed_30 : decode cX12_feed 30 = .ok (.if_icmp .ge 35, 3) := by decide +kernel
theorem dX12_feed_33 : decode cX12_feed 33 = .ok (.aload_n 0, 1) := by decide +kernel
theorem dX12_feed_34 : decode cX12_feed 34 = .ok (.getfield 66, 3) := by decide +kernel
theorem dX12_feed_37 : decode cX12_feed 37 = .ok (.aload_n 0, 1) := by decide +kernel
theorem dX12_feed_38 : decode cX12_feed 38 = .ok (.getfield 327, 3) := by decide +kernel
theorem dX12_feed_41 : decode cX12_feed 41 = .ok (.iload_n 2, 1) := by decide +kernel
theorem dX12_feed_42 : decode cX12_feed 42 = .ok (.bipush 8, 2) := by decide +kernel
theorem dX12_feed_44 : decode cX12_feed 44 = .ok (.iload_n 3, 1) := by decide +kernel
theorem dX12_feed_45 : decode cX12_feed 45 = .ok (.imul, 1) := by decide +kernel
theorem dX12_feed_46 : decode cX12_feed 46 = .ok (.ishr, 1) := by decide +kernel
theorem dX12_feed_47 : decode cX12_feed 47 = .ok (.i2b, 1) := by decide +kernel
theorem dX12_feed_48 : decode cX12_feed 48 = .ok (.bastore, 1) := by decide +kernel
theorem dX12_feed_49 : decode cX12_feed 49 = .ok (.aload_n 0, 1) := by decide +kernel
theorem dX12_feed_50 : decode cX12_feed 50 = .ok (.dup, 1) := by decide +kernel
theorem dX12_feed_51 : decode cX12_feed 51 = .ok (.getfield 327, 3) := by decide +kernel
theorem dX12_feed_54 : decode cX12_feed 54 = .ok (.iconst 1, 1) := by decide +kernel
theorem dX12_feed_55 : decode cX12_feed 55 = .ok (.iadd, 1) := by decide +kernel
theorem dX12_feed_56 : decode cX12_feed 56 = .ok (.putfield 327, 3) := by decide +kernel
theorem dX12_feed_59 : decode cX12_feed 59 = .ok (.iinc 3 1, 3) := by decide +kernel
theorem dX12_feed_62 : decode cX12_feed 62 = .ok (.goto (-34), 3) := by decide +kernel
theorem dX12_feed_65 : decode cX12_feed 65 = .ok (.aload_n 0, 1) := by decide +kernel
theorem dX12_feed_66 : decode cX12_feed 66 = .ok (.getfield 327, 3) := by decide +kernel
theorem dX12_feed_69 : decode cX12_feed 69 = .ok (.ireturn, 1) := by decide +kernel
theorem dX12_isLetter_0 : decode cX12_isLetter 0 = .ok (.iload_n 0, 1) := by decide +kernel
theorem dX12_isLetter_1 : decode cX12_isLetter 1 = .ok (.bipush 97, 2) := by decide +kernel
theorem dX12_isLetter_3 : decode cX12_isLetter 3 = .ok (.bipush 122, 2) := by decide +kernel
theorem dX12_isLetter_5 : decode cX12_isLetter 5 = .ok (.invokestatic 195, 3) := by decide +kernel
theorem dX12_isLetter_8 : decode cX12_isLetter 8 = .ok (.ireturn, 1) := by decide +kernel
theorem dX12_isDigit_0 : decode cX12_isDigit 0 = .ok (.iload_n 0, 1) := by decide +kernel
theorem dX12_isDigit_1 : decode cX12_isDigit 1 = .ok (.bipush 48, 2) := by decide +kernel
theorem dX12_isDigit_3 : decode cX12_isDigit 3 = .ok (.bipush 57, 2) := by decide +kernel
theorem dX12_isDigit_5 : decode cX12_isDigit 5 = .ok (.invokestatic 195, 3) := by decide +kernel
theorem dX12_isDigit_8 : decode cX12_isDigit 8 = .ok (.ireturn, 1) := by decide +kernel
theorem dX12_isSign_0 : decode cX12_isSign 0 = .ok (.iload_n 0, 1) := by decide +kernel
theorem dX12_isSign_1 : decode cX12_isSign 1 = .ok (.bipush 59, 2) := by decide +kernel
theorem dX12_isSign_3 : decode cX12_isSign 3 = .ok (.if_icmp .eq 69, 3) := by decide +kernel
theorem dX12_isSign_6 : decode cX12_isSign 6 = .ok (.iload_n 0, 1) := by decide +kernel
theorem dX12_isSign_7 : decode cX12_isSign 7 = .ok (.bipush 58, 2) := by decide +kernel
theorem dX12_isSign_9 : decode cX12_isSign 9 = .ok (.if_icmp .eq 63, 3) := by decide +kernel
theorem dX12_isSign_12 : decode cX12_isSign 12 = .ok (.iload_n 0, 1) := by decide +kernel
theorem dX12_isSign_13 : decode cX12_isSign 13 = .ok (.bipush 60, 2) := by decide +kernel
theorem dX12_isSign_15 : decode cX12_isSign 15 = .ok (.if_icmp .eq 57, 3) := by decide +kernel
theorem dX12_isSign_18 : decode cX12_isSign 18 = .ok (.iload_n 0, 1) := by decide +kernel
theorem dX12_isSign_19 : decode cX12_isSign 19 = .ok (.bipush 62, 2) := by decide +kernel
theorem dX12_isSign_21 : decode cX12_isSign 21 = .ok (.if_icmp .eq 51, 3) := by decide +kernel
theorem dX12_isSign_24 : decode cX12_isSign 24 = .ok (.iload_n 0, 1) := by decide +kernel
theorem dX12_isSign_25 : decode cX12_isSign 25 = .ok (.bipush 61, 2) := by decide +kernel
theorem dX12_isSign_27 : decode cX12_isSign 27 = .ok (.if_icmp .eq 45, 3) := by decide +kernel
theorem dX12_isSign_30 : decode cX12_isSign 30 = .ok (.iload_n 0, 1) := by decide +kernel
theorem dX12_isSign_31 : decode cX12_isSign 31 = .ok (.bipush 43, 2) := by decide +kernel
theorem dX12_isSign_33 : decode cX12_isSign 33 = .ok (.if_icmp .eq 39, 3) := by decide +kernel
theorem dX12_isSign_36 : decode cX12_isSign 36 = .ok (.iload_n 0, 1) := by decide +kernel
theorem dX12_isSign_37 : decode cX12_isSign 37 = .ok (.bipush 45, 2) := by decide +kernel
theorem dX12_isSign_39 : decode cX12_isSign 39 = .ok (.if_icmp .eq 33, 3) := by decide +kernel
theorem dX12_isSign_42 : decode cX12_isSign 42 = .ok (.iload_n 0, 1) := by decide +kernel
theorem dX12_isSign_43 : decode cX12_isSign 43 = .ok (.bipush 42, 2) := by decide +kernel
theorem dX12_isSign_45 : decode cX12_isSign 45 = .ok (.if_icmp .eq 27, 3) := by decide +kernel
theorem dX12_isSign_48 : decode cX12_isSign 48 = .ok (.iload_n 0, 1) := by decide +kernel
theorem dX12_isSign_49 : decode cX12_isSign 49 = .ok (.bipush 47, 2) := by decide +kernel
theorem dX12_isSign_51 : decode cX12_isSign 51 = .ok (.if_icmp .eq 21, 3) := by decide +kernel
theorem dX12_isSign_54 : decode cX12_isSign 54 = .ok (.iload_n 0, 1) := by decide +kernel
theorem dX12_isSign_55 : decode cX12_isSign 55 = .ok (.bipush 37, 2) := by decide +kernel
theorem dX12_isSign_57 : decode cX12_isSign 57 = .ok (.if_icmp .eq 15, 3) := by decide +kernel
theorem dX12_isSign_60 : decode cX12_isSign 60 = .ok (.iload_n 0, 1) := by decide +kernel
theorem dX12_isSign_61 : decode cX12_isSign 61 = .ok (.bipush 40, 2) := by decide +kernel
theorem dX12_isSign_63 : decode cX12_isSign 63 = .ok (.if_icmp .eq 9, 3) := by decide +kernel
theorem dX12_isSign_66 : decode cX12_isSign 66 = .ok (.iload_n 0, 1) := by decide +kernel
theorem dX12_isSign_67 : decode cX12_isSign 67 = .ok (.bipush 41, 2) := by decide +kernel
theorem dX12_isSign_69 : decode cX12_isSign 69 = .ok (.if_icmp .ne 7, 3) := by decide +kernel
theorem dX12_isSign_72 : decode cX12_isSign 72 = .ok (.iconst 1, 1) := by decide +kernel
theorem dX12_isSign_73 : decode cX12_isSign 73 = .ok (.goto 4, 3) := by decide +kernel
theorem dX12_isSign_76 : decode cX12_isSign 76 = .ok (.iconst 0, 1) := by decide +kernel
theorem dX12_isSign_77 : decode cX12_isSign 77 = .ok (.ireturn, 1) := by decide +kernel
theorem dX12_nextToken_0 : decode cX12_nextToken 0 = .ok (.aload_n 0, 1) := by decide +kernel
theorem dX12_nextToken_1 : decode cX12_nextToken 1 = .ok (.aload_n 0, 1) := by decide +kernel
theorem dX12_nextToken_2 : decode cX12_nextToken 2 = .ok (.getfield 330, 3) := by decide +kernel
theorem dX12_nextToken_5 : decode cX12_nextToken 5 = .ok (.putfield 333, 3) := by decide +kernel
theorem dX12_nextToken_8 : decode cX12_nextToken 8 = .ok (.aload_n 0, 1) := by decide +kernel
theorem dX12_nextToken_9 : decode cX12_nextToken 9 = .ok (.getfield 333, 3) := by decide +kernel
theorem dX12_nextToken_12 : decode cX12_nextToken 12 = .ok (.aload_n 0, 1) := by decide +kernel
theorem dX12_nextToken_13 : decode cX12_nextToken 13 = .ok (.getfield 327, 3) := by decide +kernel
theorem dX12_nextToken_16 : decode cX12_nextToken 16 = .ok (.if_icmp .ge 30, 3) := by decide +kernel
theorem dX12_nextToken_19 : decode cX12_nextToken 19 = .ok (.aload_n 0, 1) := by decide +kernel
theorem dX12_nextToken_20 : decode cX12_nextToken 20 = .ok (.getfield 66, 3) := by decide +kernel
theorem dX12_nextToken_23 : decode cX12_nextToken 23 = .ok (.aload_n 0, 1) := by decide +kernel
theorem dX12_nextToken_24 : decode cX12_nextToken 24 = .ok (.getfield 333, 3) := by decide +kernel
theorem dX12_nextToken_27 : decode cX12_nextToken 27 = .ok (.baload, 1) := by decide +kernel
theorem dX12_nextToken_28 : decode cX12_nextToken 28 = .ok (.bipush 32, 2) := by decide +kernel
theorem dX12_nextToken_30 : decode cX12_nextToken 30 = .ok (.if_icmp .ne 16, 3) := by decide +kernel
theorem dX12_nextToken_33 : decode cX12_nextToken 33 = .ok (.aload_n 0, 1) := by decide +kernel
theorem dX12_nextToken_34 : decode cX12_nextToken 34 = .ok (.dup, 1) := by decide +kernel
theorem dX12_nextToken_35 : decode cX12_nextToken 35 = .ok (.getfield 333, 3) := by decide +kernel
theorem dX12_nextToken_38 : decode cX12_nextToken 38 = .ok (.iconst 1, 1) := by decide +kernel
theorem dX12_nextToken_39 : decode cX12_nextToken 39 = .ok (.iadd, 1) := by decide +kernel
theorem dX12_nextToken_40 : decode cX12_nextToken 40 = .ok (.putfield 333, 3) := by decide +kernel
theorem dX12_nextToken_43 : decode cX12_nextToken 43 = .ok (.goto (-35), 3) := by decide +kernel
theorem dX12_nextToken_46 : decode cX12_nextToken 46 = .ok (.aload_n 0, 1) := by decide +kernel
theorem dX12_nextToken_47 : decode cX12_nextToken 47 = .ok (.aload_n 0, 1) := by decide +kernel
theorem dX12_nextToken_48 : decode cX12_nextToken 48 = .ok (.getfield 333, 3) := by decide +kernel
theorem dX12_nextToken_51 : decode cX12_nextToken 51 = .ok (.putfield 330, 3) := by decide +kernel
theorem dX12_nextToken_54 : decode cX12_nextToken 54 = .ok (.aload_n 0, 1) := by decide +kernel
theorem dX12_nextToken_55 : decode cX12_nextToken 55 = .ok (.getfield 333, 3) := by decide +kernel
theorem dX12_nextToken_58 : decode cX12_nextToken 58 = .ok (.aload_n 0, 1) := by decide +kernel
theorem dX12_nextToken_59 : decode cX12_nextToken 59 = .ok (.getfield 327, 3) := by decide +kernel
theorem dX12_nextToken_62 : decode cX12_nextToken 62 = .ok (.if_icmp .ne 11, 3) := by decide +kernel
theorem dX12_nextToken_65 : decode cX12_nextToken 65 = .ok (.aload_n 0, 1) := by decide +kernel
theorem dX12_nextToken_66 : decode cX12_nextToken 66 = .ok (.iconst 0, 1) := by decide +kernel
theorem dX12_nextToken_67 : decode cX12_nextToken 67 = .ok (.putfield 336, 3) := by decide +kernel
theorem dX12_nextToken_70 : decode cX12_nextToken 70 = .ok (.goto 235, 3) := by decide +kernel
theorem dX12_nextToken_73 : decode cX12_nextToken 73 = .ok (.aload_n 0, 1) := by decide +kernel
theorem dX12_nextToken_74 : decode cX12_nextToken 74 = .ok (.getfield 66, 3) := by decide +kernel
theorem dX12_nextToken_77 : decode cX12_nextToken 77 = .ok (.aload_n 0, 1) := by decide +kernel
theorem dX12_nextToken_78 : decode cX12_nextToken 78 = .ok (.getfield 333, 3) := by decide +kernel
theorem dX12_nextToken_81 : decode cX12_nextToken 81 = .ok (.baload, 1) := by decide +kernel
theorem dX12_nextToken_82 : decode cX12_nextToken 82 = .ok (.invokestatic 339, 3) := by decide +kernel
theorem dX12_nextToken_85 : decode cX12_nextToken 85 = .ok (.ifCond .eq 50, 3) := by decide +kernel
theorem dX12_nextToken_88 : decode cX12_nextToken 88 = .ok (.aload_n 0, 1) := by decide +kernel
theorem dX12_nextToken_89 : decode cX12_nextToken 89 = .ok (.getfield 330, 3) := by decide +kernel
theorem dX12_nextToken_92 : decode cX12_nextToken 92 = .ok (.aload_n 0, 1) := by decide +kernel
theorem dX12_nextToken_93 : decode cX12_nextToken 93 = .ok (.getfield 327, 3) := by decide +kernel
theorem dX12_nextToken_96 : decode cX12_nextToken 96 = .ok (.if_icmp .ge 31, 3) := by decide +kernel
theorem dX12_nextToken_99 : decode cX12_nextToken 99 = .ok (.aload_n 0, 1) := by decide +kernel
theorem dX12_nextToken_100 : decode cX12_nextToken 100 = .ok (.getfield 66, 3) := by decide +kernel
theorem dX12_nextToken_103 : decode cX12_nextToken 103 = .ok (.aload_n 0, 1) := by decide +kernel
theorem dX12_nextToken_104 : decode cX12_nextToken 104 = .ok (.getfield 330, 3) := by decide +kernel
theorem dX12_nextToken_107 : decode cX12_nextToken 107 = .ok (.baload, 1) := by decide +kernel
theorem dX12_nextToken_108 : decode cX12_nextToken 108 = .ok (.invokestatic 339, 3) := by decide +kernel
theorem dX12_nextToken_111 : decode cX12_nextToken 111 = .ok (.ifCond .eq 16, 3) := by decide +kernel
theorem dX12_nextToken_114 : decode cX12_nextToken 114 = .ok (.aload_n 0, 1) := by decide +kernel
theorem dX12_nextToken_115 : decode cX12_nextToken 115 = .ok (.dup, 1) := by decide +kernel
theorem dX12_nextToken_116 : decode cX12_nextToken 116 = .ok (.getfield 330, 3) := by decide +kernel
theorem dX12_nextToken_119 : decode cX12_nextToken 119 = .ok (.iconst 1, 1) := by decide +kernel
theorem dX12_nextToken_120 : decode cX12_nextToken 120 = .ok (.iadd, 1) := by decide +kernel
theorem dX12_nextToken_121 : decode cX12_nextToken 121 = .ok (.putfield 330, 3) := by decide +kernel
theorem dX12_nextToken_124 : decode cX12_nextToken 124 = .ok (.goto (-36), 3) := by decide +kernel
theorem dX12_nextToken_127 : decode cX12_nextToken 127 = .ok (.aload_n 0, 1) := by decide +kernel
theorem dX12_nextToken_128 : decode cX12_nextToken 128 = .ok (.iconst 1, 1) := by decide +kernel
theorem dX12_nextToken_129 : decode cX12_nextToken 129 = .ok (.putfield 336, 3) := by decide +kernel
theorem dX12_nextToken_132 : decode cX12_nextToken 132 = .ok (.goto 173, 3) := by decide +kernel
theorem dX12_nextToken_135 : decode cX12_nextToken 135 = .ok (.aload_n 0, 1) := by decide +kernel
theorem dX12_nextToken_136 : decode cX12_nextToken 136 = .ok (.getfield 66, 3) := by decide +kernel
theorem dX12_nextToken_139 : decode cX12_nextToken 139 = .ok (.aload_n 0, 1) := by decide +kernel
theorem dX12_nextToken_140 : decode cX12_nextToken 140 = .ok (.getfield 333, 3) := by decide +kernel
theorem dX12_nextToken_143 : decode cX12_nextToken 143 = .ok (.baload, 1) := by decide +kernel
theorem dX12_nextToken_144 : decode cX12_nextToken 144 = .ok (.invokestatic 342, 3) := by decide +kernel
theorem dX12_nextToken_147 : decode cX12_nextToken 147 = .ok (.ifCond .eq 116, 3) := by decide +kernel
theorem dX12_nextToken_150 : decode cX12_nextToken 150 = .ok (.aload_n 0, 1) := by decide +kernel
theorem dX12_nextToken_151 : decode cX12_nextToken 151 = .ok (.iconst 0, 1) := by decide +kernel
theorem dX12_nextToken_152 : decode cX12_nextToken 152 = .ok (.putfield 345, 3) := by decide +kernel
theorem dX12_nextToken_155 : decode cX12_nextToken 155 = .ok (.aload_n 0, 1) := by decide +kernel
theorem dX12_nextToken_156 : decode cX12_nextToken 156 = .ok (.getfield 330, 3) := by decide +kernel
theorem dX12_nextToken_159 : decode cX12_nextToken 159 = .ok (.aload_n 0, 1) := by decide +kernel
theorem dX12_nextToken_160 : decode cX12_nextToken 160 = .ok (.getfield 327, 3) := by decide +kernel
theorem dX12_nextToken_163 : decode cX12_nextToken 163 = .ok (.if_icmp .ge 75, 3) := by decide +kernel
theorem dX12_nextToken_166 : decode cX12_nextToken 166 = .ok (.aload_n 0, 1) := by decide +kernel
theorem dX12_nextToken_167 : decode cX12_nextToken 167 = .ok (.getfield 66, 3) := by decide +kernel
theorem dX12_nextToken_170 : decode cX12_nextToken 170 = .ok (.aload_n 0, 1) := by decide +kernel
theorem dX12_nextToken_171 : decode cX12_nextToken 171 = .ok (.getfield 330, 3) := by decide +kernel
theorem dX12_nextToken_174 : decode cX12_nextToken 174 = .ok (.baload, 1) := by decide +kernel
theorem dX12_nextToken_175 : decode cX12_nextToken 175 = .ok (.invokestatic 342, 3) := by decide +kernel
theorem dX12_nextToken_178 : decode cX12_nextToken 178 = .ok (.ifCond .eq 60, 3) := by decide +kernel
theorem dX12_nextToken_181 : decode cX12_nextToken 181 = .ok (.aload_n 0, 1) := by decide +kernel
theorem dX12_nextToken_182 : decode cX12_nextToken 182 = .ok (.aload_n 0, 1) := by decide +kernel
theorem dX12_nextToken_183 : decode cX12_nextToken 183 = .ok (.getfield 330, 3) := by decide +kernel
theorem dX12_nextToken_186 : decode cX12_nextToken 186 = .ok (.aload_n 0, 1) := by decide +kernel
theorem dX12_nextToken_187 : decode cX12_nextToken 187 = .ok (.getfield 333, 3) := by decide +kernel
theorem dX12_nextToken_190 : decode cX12_nextToken 190 = .ok (.isub, 1) := by decide +kernel
theorem dX12_nextToken_191 : decode cX12_nextToken 191 = .ok (.iconst 5, 1) := by decide +kernel
theorem dX12_nextToken_192 : decode cX12_nextToken 192 = .ok (.if_icmp .ge 26, 3) := by decide +kernel
theorem dX12_nextToken_195 : decode cX12_nextToken 195 = .ok (.bipush 10, 2) := by decide +kernel
theorem dX12_nextToken_197 : decode cX12_nextToken 197 = .ok (.aload_n 0, 1) := by decide +kernel
theorem dX12_nextToken_198 : decode cX12_nextToken 198 = .ok (.getfield 345, 3) := by decide +kernel
theorem dX12_nextToken_201 : decode cX12_nextToken 201 = .ok (.imul, 1) := by decide +kernel
theorem dX12_nextToken_202 : decode cX12_nextToken 202 = .ok (.aload_n 0, 1) := by decide +kernel
theorem dX12_nextToken_203 : decode cX12_nextToken 203 = .ok (.getfield 66, 3) := by decide +kernel
theorem dX12_nextToken_206 : decode cX12_nextToken 206 = .ok (.aload_n 0, 1) := by decide +kernel
theorem dX12_nextToken_207 : decode cX12_nextToken 207 = .ok (.getfield 330, 3) := by decide +kernel
theorem dX12_nextToken_210 : decode cX12_nextToken 210 = .ok (.baload, 1) := by decide +kernel
theorem dX12_nextToken_211 : decode cX12_nextToken 211 = .ok (.iadd, 1) := by decide +kernel
theorem dX12_nextToken_212 : decode cX12_nextToken 212 = .ok (.bipush 48, 2) := by decide +kernel
theorem dX12_nextToken_214 : decode cX12_nextToken 214 = .ok (.isub, 1) := by decide +kernel
theorem dX12_nextToken_215 : decode cX12_nextToken 215 = .ok (.goto 7, 3) := by decide +kernel
theorem dX12_nextToken_218 : decode cX12_nextToken 218 = .ok (.aload_n 0, 1) := by decide +kernel
theorem dX12_nextToken_219 : decode cX12_nextToken 219 = .ok (.getfield 345, 3) := by decide +kernel
theorem dX12_nextToken_222 : decode cX12_nextToken 222 = .ok (.putfield 345, 3) := by decide +kernel
theorem dX12_nextToken_225 : decode cX12_nextToken 225 = .ok (.aload_n 0, 1) := by decide +kernel
theorem dX12_nextToken_226 : decode cX12_nextToken 226 = .ok (.dup, 1) := by decide +kernel
theorem dX12_nextToken_227 : decode cX12_nextToken 227 = .ok (.getfield 330, 3) := by decide +kernel
theorem dX12_nextToken_230 : decode cX12_nextToken 230 = .ok (.iconst 1, 1) := by decide +kernel
theorem dX12_nextToken_231 : decode cX12_nextToken 231 = .ok (.iadd, 1) := by decide +kernel
theorem dX12_nextToken_232 : decode cX12_nextToken 232 = .ok (.putfield 330, 3) := by decide +kernel
theorem dX12_nextToken_235 : decode cX12_nextToken 235 = .ok (.goto (-80), 3) := by decide +kernel
theorem dX12_nextToken_238 : decode cX12_nextToken 238 = .ok (.aload_n 0, 1) := by decide +kernel
theorem dX12_nextToken_239 : decode cX12_nextToken 239 = .ok (.aload_n 0, 1) := by decide +kernel
theorem dX12_nextToken_240 : decode cX12_nextToken 240 = .ok (.getfield 330, 3) := by decide +kernel
theorem dX12_nextToken_243 : decode cX12_nextToken 243 = .ok (.aload_n 0, 1) := by decide +kernel
theorem dX12_nextToken_244 : decode cX12_nextToken 244 = .ok (.getfield 333, 3) := by decide +kernel
theorem dX12_nextToken_247 : decode cX12_nextToken 247 = .ok (.isub, 1) := by decide +kernel
theorem dX12_nextToken_248 : decode cX12_nextToken 248 = .ok (.iconst 5, 1) := by decide +kernel
theorem dX12_nextToken_249 : decode cX12_nextToken 249 = .ok (.if_icmp .le 7, 3) := by decide +kernel
theorem dX12_nextToken_252 : decode cX12_nextToken 252 = .ok (.iconst (-1), 1) := by decide +kernel
theorem dX12_nextToken_253 : decode cX12_nextToken 253 = .ok (.goto 4, 3) := by decide +kernel
theorem dX12_nextToken_256 : decode cX12_nextToken 256 = .ok (.iconst 2, 1) := by decide +kernel
theorem dX12_nextToken_257 : decode cX12_nextToken 257 = .ok (.putfield 336, 3) := by decide +kernel
theorem dX12_nextToken_260 : decode cX12_nextToken 260 = .ok (.goto 45, 3) := by decide +kernel
theorem dX12_nextToken_263 : decode cX12_nextToken 263 = .ok (.aload_n 0, 1) := by decide +kernel
theorem dX12_nextToken_264 : decode cX12_nextToken 264 = .ok (.dup, 1) := by decide +kernel
theorem dX12_nextToken_265 : decode cX12_nextToken 265 = .ok (.getfield 330, 3) := by decide +kernel
theorem dX12_nextToken_268 : decode cX12_nextToken 268 = .ok (.iconst 1, 1) := by decide +kernel
theorem dX12_nextToken_269 : decode cX12_nextToken 269 = .ok (.iadd, 1) := by decide +kernel
theorem dX12_nextToken_270 : decode cX12_nextToken 270 = .ok (.putfield 330, 3) := by decide +kernel
theorem dX12_nextToken_273 : decode cX12_nextToken 273 = .ok (.aload_n 0, 1) := by decide +kernel
theorem dX12_nextToken_274 : decode cX12_nextToken 274 = .ok (.aload_n 0, 1) := by decide +kernel
theorem dX12_nextToken_275 : decode cX12_nextToken 275 = .ok (.getfield 66, 3) := by decide +kernel
theorem dX12_nextToken_278 : decode cX12_nextToken 278 = .ok (.aload_n 0, 1) := by decide +kernel
theorem dX12_nextToken_279 : decode cX12_nextToken 279 = .ok (.getfield 333, 3) := by decide +kernel
theorem dX12_nextToken_282 : decode cX12_nextToken 282 = .ok (.baload, 1) := by decide +kernel
theorem dX12_nextToken_283 : decode cX12_nextToken 283 = .ok (.invokestatic 348, 3) := by decide +kernel
theorem dX12_nextToken_286 : decode cX12_nextToken 286 = .ok (.ifCond .eq 15, 3) := by decide +kernel
theorem dX12_nextToken_289 : decode cX12_nextToken 289 = .ok (.aload_n 0, 1) := by decide +kernel
theorem dX12_nextToken_290 : decode cX12_nextToken 290 = .ok (.getfield 66, 3) := by decide +kernel
theorem dX12_nextToken_293 : decode cX12_nextToken 293 = .ok (.aload_n 0, 1) := by decide +kernel
theorem dX12_nextToken_294 : decode cX12_nextToken 294 = .ok (.getfield 333, 3) := by decide +kernel
theorem dX12_nextToken_297 : decode cX12_nextToken 297 = .ok (.baload, 1) := by decide +kernel
theorem dX12_nextToken_298 : decode cX12_nextToken 298 = .ok (.goto 4, 3) := by decide +kernel
theorem dX12_nextToken_301 : decode cX12_nextToken 301 = .ok (.iconst (-1), 1) := by decide +kernel
theorem dX12_nextToken_302 : decode cX12_nextToken 302 = .ok (.putfield 336, 3) := by decide +kernel
theorem dX12_nextToken_305 : decode cX12_nextToken 305 = .ok (.return_, 1) := by decide +kernel
theorem dX12_isWord_0 : decode cX12_isWord 0 = .ok (.aload_n 0, 1) := by decide +kernel
theorem dX12_isWord_1 : decode cX12_isWord 1 = .ok (.getfield 336, 3) := by decide +kernel
theorem dX12_isWord_4 : decode cX12_isWord 4 = .ok (.iconst 1, 1) := by decide +kernel
theorem dX12_isWord_5 : decode cX12_isWord 5 = .ok (.if_icmp .ne 17, 3) := by decide +kernel
theorem dX12_isWord_8 : decode cX12_isWord 8 = .ok (.aload_n 0, 1) := by decide +kernel
theorem dX12_isWord_9 : decode cX12_isWord 9 = .ok (.getfield 330, 3) := by decide +kernel
theorem dX12_isWord_12 : decode cX12_isWord 12 = .ok (.aload_n 0, 1) := by decide +kernel
theorem dX12_isWord_13 : decode cX12_isWord 13 = .ok (.getfield 333, 3) := by decide +kernel
theorem dX12_isWord_16 : decode cX12_isWord 16 = .ok (.isub, 1) := by decide +kernel
theorem dX12_isWord_17 : decode cX12_isWord 17 = .ok (.bipush 12, 2) := by decide +kernel
theorem dX12_isWord_19 : decode cX12_isWord 19 = .ok (.if_icmp .le 5, 3) := by decide +kernel
theorem dX12_isWord_22 : decode cX12_isWord 22 = .ok (.iconst 0, 1) := by decide +kernel
theorem dX12_isWord_23 : decode cX12_isWord 23 = .ok (.ireturn, 1) := by decide +kernel
theorem dX12_isWord_24 : decode cX12_isWord 24 = .ok (.lconst 0, 1) := by decide +kernel
theorem dX12_isWord_25 : decode cX12_isWord 25 = .ok (.lstore_n 3, 1) := by decide +kernel
theorem dX12_isWord_26 : decode cX12_isWord 26 = .ok (.aload_n 0, 1) := by decide +kernel
theorem dX12_isWord_27 : decode cX12_isWord 27 = .ok (.getfield 333, 3) := by decide +kernel
theorem dX12_isWord_30 : decode cX12_isWord 30 = .ok (.istore 5, 2) := by decide +kernel
theorem dX12_isWord_32 : decode cX12_isWord 32 = .ok (.iload 5, 2) := by decide +kernel
theorem dX12_isWord_34 : decode cX12_isWord 34 = .ok (.aload_n 0, 1) := by decide +kernel
theorem dX12_isWord_35 : decode cX12_isWord 35 = .ok (.getfield 330, 3) := by decide +kernel
theorem dX12_isWord_38 : decode cX12_isWord 38 = .ok (.if_icmp .ge 28, 3) := by decide +kernel
theorem dX12_isWord_41 : decode cX12_isWord 41 = .ok (.ldc2_w 351, 3) := by decide +kernel
theorem dX12_isWord_44 : decode cX12_isWord 44 = .ok (.lload_n 3, 1) := by decide +kernel
theorem dX12_isWord_45 : decode cX12_isWord 45 = .ok (.lmul, 1) := by decide +kernel
theorem dX12_isWord_46 : decode cX12_isWord 46 = .ok (.aload_n 0, 1) := by decide +kernel
theorem dX12_isWord_47 : decode cX12_isWord 47 = .ok (.getfield 66, 3) := by decide +kernel
theorem dX12_isWord_50 : decode cX12_isWord 50 = .ok (.iload 5, 2) := by decide +kernel
theorem dX12_isWord_52 : decode cX12_isWord 52 = .ok (.baload, 1) := by decide +kernel
theorem dX12_isWord_53 : decode cX12_isWord 53 = .ok (.i2l, 1) := by decide +kernel
theorem dX12_isWord_54 : decode cX12_isWord 54 = .ok (.ladd, 1) := by decide +kernel
theorem dX12_isWord_55 : decode cX12_isWord 55 = .ok (.ldc2_w 353, 3) := by decide +kernel
theorem dX12_isWord_58 : decode cX12_isWord 58 = .ok (.lsub, 1) := by decide +kernel
theorem dX12_isWord_59 : decode cX12_isWord 59 = .ok (.lstore_n 3, 1) := by decide +kernel
theorem dX12_isWord_60 : decode cX12_isWord 60 = .ok (.iinc 5 1, 3) := by decide +kernel
theorem dX12_isWord_63 : decode cX12_isWord 63 = .ok (.goto (-31), 3) := by decide +kernel
theorem dX12_isWord_66 : decode cX12_isWord 66 = .ok (.lload_n 3, 1) := by decide +kernel
theorem dX12_isWord_67 : decode cX12_isWord 67 = .ok (.lload_n 1, 1) := by decide +kernel
theorem dX12_isWord_68 : decode cX12_isWord 68 = .ok (.lcmp, 1) := by decide +kernel
theorem dX12_isWord_69 : decode cX12_isWord 69 = .ok (.ifCond .ne 7, 3) := by decide +kernel
theorem dX12_isWord_72 : decode cX12_isWord 72 = .ok (.iconst 1, 1) := by decide +kernel
theorem dX12_isWord_73 : decode cX12_isWord 73 = .ok (.goto 4, 3) := by decide +kernel
theorem dX12_isWord_76 : decode cX12_isWord 76 = .ok (.iconst 0, 1) := by decide +kernel
theorem dX12_isWord_77 : decode cX12_isWord 77 = .ok (.ireturn, 1) := by decide +kernel
theorem dX12_wrong_0 : decode cX12_wrong 0 = .ok (.aload_n 0, 1) := by decide +kernel
theorem dX12_wrong_1 : decode cX12_wrong 1 = .ok (.getfield 355, 3) := by decide +kernel
theorem dX12_wrong_4 : decode cX12_wrong 4 = .ok (.ifCond .ge 11, 3) := by decide +kernel
theorem dX12_wrong_7 : decode cX12_wrong 7 = .ok (.aload_n 0, 1) := by decide +kernel
theorem dX12_wrong_8 : decode cX12_wrong 8 = .ok (.aload_n 0, 1) := by decide +kernel
theorem dX12_wrong_9 : decode cX12_wrong 9 = .ok (.getfield 333, 3) := by decide +kernel
theorem dX12_wrong_12 : decode cX12_wrong 12 = .ok (.putfield 355, 3) := by decide +kernel
theorem dX12_wrong_15 : decode cX12_wrong 15 = .ok (.return_, 1) := by decide +kernel
theorem dX12_lay_0 : decode cX12_lay 0 = .ok (.aload_n 0, 1) := by decide +kernel
theorem dX12_lay_1 : decode cX12_lay 1 = .ok (.getfield 91, 3) := by decide +kernel
theorem dX12_lay_4 : decode cX12_lay 4 = .ok (.sipush 170, 3) := by decide +kernel
theorem dX12_lay_7 : decode cX12_lay 7 = .ok (.aload_n 0, 1) := by decide +kernel
theorem dX12_lay_8 : decode cX12_lay 8 = .ok (.getfield 358, 3) := by decide +kernel
theorem dX12_lay_11 : decode cX12_lay 11 = .ok (.imul, 1) := by decide +kernel
theorem dX12_lay_12 : decode cX12_lay 12 = .ok (.aload_n 0, 1) := by decide +kernel
theorem dX12_lay_13 : decode cX12_lay 13 = .ok (.getfield 361, 3) := by decide +kernel
theorem dX12_lay_16 : decode cX12_lay 16 = .ok (.iadd, 1) := by decide +kernel
theorem dX12_lay_17 : decode cX12_lay 17 = .ok (.iload_n 1, 1) := by decide +kernel
theorem dX12_lay_18 : decode cX12_lay 18 = .ok (.i2b, 1) := by decide +kernel
theorem dX12_lay_19 : decode cX12_lay 19 = .ok (.bastore, 1) := by decide +kernel
theorem dX12_lay_20 : decode cX12_lay 20 = .ok (.aload_n 0, 1) := by decide +kernel
theorem dX12_lay_21 : decode cX12_lay 21 = .ok (.getfield 94, 3) := by decide +kernel
theorem dX12_lay_24 : decode cX12_lay 24 = .ok (.sipush 170, 3) := by decide +kernel
theorem dX12_lay_27 : decode cX12_lay 27 = .ok (.aload_n 0, 1) := by decide +kernel
theorem dX12_lay_28 : decode cX12_lay 28 = .ok (.getfield 358, 3) := by decide +kernel
theorem dX12_lay_31 : decode cX12_lay 31 = .ok (.imul, 1) := by decide +kernel
theorem dX12_lay_32 : decode cX12_lay 32 = .ok (.aload_n 0, 1) := by decide +kernel
theorem dX12_lay_33 : decode cX12_lay 33 = .ok (.getfield 361, 3) := by decide +kernel
theorem dX12_lay_36 : decode cX12_lay 36 = .ok (.iadd, 1) := by decide +kernel
theorem dX12_lay_37 : decode cX12_lay 37 = .ok (.iload_n 2, 1) := by decide +kernel
theorem dX12_lay_38 : decode cX12_lay 38 = .ok (.iastore, 1) := by decide +kernel
theorem dX12_lay_39 : decode cX12_lay 39 = .ok (.aload_n 0, 1) := by decide +kernel
theorem dX12_lay_40 : decode cX12_lay 40 = .ok (.dup, 1) := by decide +kernel
theorem dX12_lay_41 : decode cX12_lay 41 = .ok (.getfield 361, 3) := by decide +kernel
theorem dX12_lay_44 : decode cX12_lay 44 = .ok (.iconst 1, 1) := by decide +kernel
theorem dX12_lay_45 : decode cX12_lay 45 = .ok (.iadd, 1) := by decide +kernel
theorem dX12_lay_46 : decode cX12_lay 46 = .ok (.putfield 361, 3) := by decide +kernel
theorem dX12_lay_49 : decode cX12_lay 49 = .ok (.return_, 1) := by decide +kernel
theorem dX12_opens_0 : decode cX12_opens 0 = .ok (.aload_n 0, 1) := by decide +kernel
theorem dX12_opens_1 : decode cX12_opens 1 = .ok (.getfield 364, 3) := by decide +kernel
theorem dX12_opens_4 : decode cX12_opens 4 = .ok (.bipush 6, 2) := by decide +kernel
theorem dX12_opens_6 : decode cX12_opens 6 = .ok (.if_icmp .ne 9, 3) := by decide +kernel
theorem dX12_opens_9 : decode cX12_opens 9 = .ok (.aload_n 0, 1) := by decide +kernel
theorem dX12_opens_10 : decode cX12_opens 10 = .ok (.invokevirtual 367, 3) := by decide +kernel
theorem dX12_opens_13 : decode cX12_opens 13 = .ok (.iconst 0, 1) := by decide +kernel
theorem dX12_opens_14 : decode cX12_opens 14 = .ok (.ireturn, 1) := by decide +kernel
theorem dX12_opens_15 : decode cX12_opens 15 = .ok (.aload_n 0, 1) := by decide +kernel
theorem dX12_opens_16 : decode cX12_opens 16 = .ok (.dup, 1) := by decide +kernel
theorem dX12_opens_17 : decode cX12_opens 17 = .ok (.getfield 364, 3) := by decide +kernel
theorem dX12_opens_20 : decode cX12_opens 20 = .ok (.iconst 1, 1) := by decide +kernel
theorem dX12_opens_21 : decode cX12_opens 21 = .ok (.iadd, 1) := by decide +kernel
theorem dX12_opens_22 : decode cX12_opens 22 = .ok (.putfield 364, 3) := by decide +kernel
theorem dX12_opens_25 : decode cX12_opens 25 = .ok (.aload_n 0, 1) := by decide +kernel
theorem dX12_opens_26 : decode cX12_opens 26 = .ok (.invokevirtual 370, 3) := by decide +kernel
theorem dX12_opens_29 : decode cX12_opens 29 = .ok (.iconst 1, 1) := by decide +kernel
theorem dX12_opens_30 : decode cX12_opens 30 = .ok (.ireturn, 1) := by decide +kernel
theorem dX12_nameHere_0 : decode cX12_nameHere 0 = .ok (.iconst 0, 1) := by decide +kernel
theorem dX12_nameHere_1 : decode cX12_nameHere 1 = .ok (.istore_n 1, 1) := by decide +kernel
theorem dX12_nameHere_2 : decode cX12_nameHere 2 = .ok (.iload_n 1, 1) := by decide +kernel
theorem dX12_nameHere_3 : decode cX12_nameHere 3 = .ok (.getstatic 373, 3) := by decide +kernel
theorem dX12_nameHere_6 : decode cX12_nameHere 6 = .ok (.arraylength, 1) := by decide +kernel
theorem dX12_nameHere_7 : decode cX12_nameHere 7 = .ok (.if_icmp .ge 23, 3) := by decide +kernel
theorem dX12_nameHere_10 : decode cX12_nameHere 10 = .ok (.aload_n 0, 1) := by decide +kernel
theorem dX12_nameHere_11 : decode cX12_nameHere 11 = .ok (.getstatic 373, 3) := by decide +kernel
theorem dX12_nameHere_14 : decode cX12_nameHere 14 = .ok (.iload_n 1, 1) := by decide +kernel
theorem dX12_nameHere_15 : decode cX12_nameHere 15 = .ok (.laload, 1) := by decide +kernel
theorem dX12_nameHere_16 : decode cX12_nameHere 16 = .ok (.invokevirtual 376, 3) := by decide +kernel
theorem dX12_nameHere_19 : decode cX12_nameHere 19 = .ok (.ifCond .eq 5, 3) := by decide +kernel
theorem dX12_nameHere_22 : decode cX12_nameHere 22 = .ok (.iload_n 1, 1) := by decide +kernel
theorem dX12_nameHere_23 : decode cX12_nameHere 23 = .ok (.ireturn, 1) := by decide +kernel
theorem dX12_nameHere_24 : decode cX12_nameHere 24 = .ok (.iinc 1 1, 3) := by decide +kernel
theorem dX12_nameHere_27 : decode cX12_nameHere 27 = .ok (.goto (-25), 3) := by decide +kernel
theorem dX12_nameHere_30 : decode cX12_nameHere 30 = .ok (.iconst (-1), 1) := by decide +kernel
theorem dX12_nameHere_31 : decode cX12_nameHere 31 = .ok (.ireturn, 1) := by decide +kernel
theorem dX12_operand_0 : decode cX12_operand 0 = .ok (.aload_n 0, 1) := by decide +kernel
theorem dX12_operand_1 : decode cX12_operand 1 = .ok (.getfield 336, 3) := by decide +kernel
theorem dX12_operand_4 : decode cX12_operand 4 = .ok (.iconst 2, 1) := by decide +kernel
theorem dX12_operand_5 : decode cX12_operand 5 = .ok (.if_icmp .ne 19, 3) := by decide +kernel
theorem dX12_operand_8 : decode cX12_operand 8 = .ok (.aload_n 0, 1) := by decide +kernel
theorem dX12_operand_9 : decode cX12_operand 9 = .ok (.iconst 1, 1) := by decide +kernel
theorem dX12_operand_10 : decode cX12_operand 10 = .ok (.aload_n 0, 1) := by decide +kernel
theorem dX12_operand_11 : decode cX12_operand 11 = .ok (.getfield 345, 3) := by decide +kernel
theorem dX12_operand_14 : decode cX12_operand 14 = .ok (.invokevirtual 380, 3) := by decide +kernel
theorem dX12_operand_17 : decode cX12_operand 17 = .ok (.aload_n 0, 1) := by decide +kernel
theorem dX12_operand_18 : decode cX12_operand 18 = .ok (.invokevirtual 370, 3) := by decide +kernel
theorem dX12_operand_21 : decode cX12_operand 21 = .ok (.goto 130, 3) := by decide +kernel
theorem dX12_operand_24 : decode cX12_operand 24 = .ok (.aload_n 0, 1) := by decide +kernel
theorem dX12_operand_25 : decode cX12_operand 25 = .ok (.invokevirtual 383, 3) := by decide +kernel
theorem dX12_operand_28 : decode cX12_operand 28 = .ok (.ifCond .lt 19, 3) := by decide +kernel
theorem dX12_operand_31 : decode cX12_operand 31 = .ok (.aload_n 0, 1) := by decide +kernel
theorem dX12_operand_32 : decode cX12_operand 32 = .ok (.iconst 2, 1) := by decide +kernel
theorem dX12_operand_33 : decode cX12_operand 33 = .ok (.aload_n 0, 1) := by decide +kernel
theorem dX12_operand_34 : decode cX12_operand 34 = .ok (.invokevirtual 383, 3) := by decide +kernel
theorem dX12_operand_37 : decode cX12_operand 37 = .ok (.invokevirtual 380, 3) := by decide +kernel
theorem dX12_operand_40 : decode cX12_operand 40 = .ok (.aload_n 0, 1) := by decide +kernel
theorem dX12_operand_41 : decode cX12_operand 41 = .ok (.invokevirtual 370, 3) := by decide +kernel
theorem dX12_operand_44 : decode cX12_operand 44 = .ok (.goto 107, 3) := by decide +kernel
theorem dX12_operand_47 : decode cX12_operand 47 = .ok (.aload_n 0, 1) := by decide +kernel
theorem dX12_operand_48 : decode cX12_operand 48 = .ok (.getfield 336, 3) := by decide +kernel
theorem dX12_operand_51 : decode cX12_operand 51 = .ok (.bipush 45, 2) := by decide +kernel
theorem dX12_operand_53 : decode cX12_operand 53 = .ok (.if_icmp .ne 34, 3) := by decide +kernel
theorem dX12_operand_56 : decode cX12_operand 56 = .ok (.aload_n 0, 1) := by decide +kernel
theorem dX12_operand_57 : decode cX12_operand 57 = .ok (.invokevirtual 387, 3) := by decide +kernel
theorem dX12_operand_60 : decode cX12_operand 60 = .ok (.ifCond .ne 4, 3) := by decide +kernel
theorem dX12_operand_63 : decode cX12_operand 63 = .ok (.return_, 1) := by decide +kernel
theorem dX12_operand_64 : decode cX12_operand 64 = .ok (.aload_n 0, 1) := by decide +kernel
theorem dX12_operand_65 : decode cX12_operand 65 = .ok (.invokevirtual 391, 3) := by decide +kernel
theorem dX12_operand_68 : decode cX12_operand 68 = .ok (.aload_n 0, 1) := by decide +kernel
theorem dX12_operand_69 : decode cX12_operand 69 = .ok (.dup, 1) := by decide +kernel
theorem dX12_operand_70 : decode cX12_operand 70 = .ok (.getfield 364, 3) := by decide +kernel
theorem dX12_operand_73 : decode cX12_operand 73 = .ok (.iconst 1, 1) := by decide +kernel
theorem dX12_operand_74 : decode cX12_operand 74 = .ok (.isub, 1) := by decide +kernel
theorem dX12_operand_75 : decode cX12_operand 75 = .ok (.putfield 364, 3) := by decide +kernel
theorem dX12_operand_78 : decode cX12_operand 78 = .ok (.aload_n 0, 1) := by decide +kernel
theorem dX12_operand_79 : decode cX12_operand 79 = .ok (.iconst 4, 1) := by decide +kernel
theorem dX12_operand_80 : decode cX12_operand 80 = .ok (.iconst 0, 1) := by decide +kernel
theorem dX12_operand_81 : decode cX12_operand 81 = .ok (.invokevirtual 380, 3) := by decide +kernel
theorem dX12_operand_84 : decode cX12_operand 84 = .ok (.goto 67, 3) := by decide +kernel
theorem dX12_operand_87 : decode cX12_operand 87 = .ok (.aload_n 0, 1) := by decide +kernel
theorem dX12_operand_88 : decode cX12_operand 88 = .ok (.getfield 336, 3) := by decide +kernel
theorem dX12_operand_91 : decode cX12_operand 91 = .ok (.bipush 40, 2) := by decide +kernel
theorem dX12_operand_93 : decode cX12_operand 93 = .ok (.if_icmp .ne 54, 3) := by decide +kernel
theorem dX12_operand_96 : decode cX12_operand 96 = .ok (.aload_n 0, 1) := by decide +kernel
theorem dX12_operand_97 : decode cX12_operand 97 = .ok (.invokevirtual 387, 3) := by decide +kernel
theorem dX12_operand_100 : decode cX12_operand 100 = .ok (.ifCond .ne 4, 3) := by decide +kernel
theorem dX12_operand_103 : decode cX12_operand 103 = .ok (.return_, 1) := by decide +kernel
theorem dX12_operand_104 : decode cX12_operand 104 = .ok (.aload_n 0, 1) := by decide +kernel
theorem dX12_operand_105 : decode cX12_operand 105 = .ok (.invokevirtual 394, 3) := by decide +kernel
theorem dX12_operand_108 : decode cX12_operand 108 = .ok (.aload_n 0, 1) := by decide +kernel
theorem dX12_operand_109 : decode cX12_operand 109 = .ok (.getfield 355, 3) := by decide +kernel
theorem dX12_operand_112 : decode cX12_operand 112 = .ok (.ifCond .lt 4, 3) := by decide +kernel
theorem dX12_operand_115 : decode cX12_operand 115 = .ok (.return_, 1) := by decide +kernel
theorem dX12_operand_116 : decode cX12_operand 116 = .ok (.aload_n 0, 1) := by decide +kernel
theorem dX12_operand_117 : decode cX12_operand 117 = .ok (.getfield 336, 3) := by decide +kernel
theorem dX12_operand_120 : decode cX12_operand 120 = .ok (.bipush 41, 2) := by decide +kernel
theorem dX12_operand_122 : decode cX12_operand 122 = .ok (.if_icmp .eq 8, 3) := by decide +kernel
theorem dX12_operand_125 : decode cX12_operand 125 = .ok (.aload_n 0, 1) := by decide +kernel
theorem dX12_operand_126 : decode cX12_operand 126 = .ok (.invokevirtual 367, 3) := by decide +kernel
theorem dX12_operand_129 : decode cX12_operand 129 = .ok (.return_, 1) := by decide +kernel
theorem dX12_operand_130 : decode cX12_operand 130 = .ok (.aload_n 0, 1) := by decide +kernel
theorem dX12_operand_131 : decode cX12_operand 131 = .ok (.dup, 1) := by decide +kernel
theorem dX12_operand_132 : decode cX12_operand 132 = .ok (.getfield 364, 3) := by decide +kernel
theorem dX12_operand_135 : decode cX12_operand 135 = .ok (.iconst 1, 1) := by decide +kernel
theorem dX12_operand_136 : decode cX12_operand 136 = .ok (.isub, 1) := by decide +kernel
theorem dX12_operand_137 : decode cX12_operand 137 = .ok (.putfield 364, 3) := by decide +kernel
theorem dX12_operand_140 : decode cX12_operand 140 = .ok (.aload_n 0, 1) := by decide +kernel
theorem dX12_operand_141 : decode cX12_operand 141 = .ok (.invokevirtual 370, 3) := by decide +kernel
theorem dX12_operand_144 : decode cX12_operand 144 = .ok (.goto 7, 3) := by decide +kernel
theorem dX12_operand_147 : decode cX12_operand 147 = .ok (.aload_n 0, 1) := by decide +kernel
theorem dX12_operand_148 : decode cX12_operand 148 = .ok (.invokevirtual 367, 3) := by decide +kernel
theorem dX12_operand_151 : decode cX12_operand 151 = .ok (.return_, 1) := by decide +kernel
theorem dX12_product_0 : decode cX12_product 0 = .ok (.aload_n 0, 1) := by decide +kernel
theorem dX12_product_1 : decode cX12_product 1 = .ok (.invokevirtual 391, 3) := by decide +kernel
theorem dX12_product_4 : decode cX12_product 4 = .ok (.aload_n 0, 1) := by decide +kernel
theorem dX12_product_5 : decode cX12_product 5 = .ok (.getfield 355, 3) := by decide +kernel
theorem dX12_product_8 : decode cX12_product 8 = .ok (.ifCond .ge 52, 3) := by decide +kernel
theorem dX12_product_11 : decode cX12_product 11 = .ok (.aload_n 0, 1) := by decide +kernel
theorem dX12_product_12 : decode cX12_product 12 = .ok (.getfield 336, 3) := by decide +kernel
theorem dX12_product_15 : decode cX12_product 15 = .ok (.bipush 42, 2) := by decide +kernel
theorem dX12_product_17 : decode cX12_product 17 = .ok (.if_icmp .eq 21, 3) := by decide +kernel
theorem dX12_product_20 : decode cX12_product 20 = .ok (.aload_n 0, 1) := by decide +kernel
theorem dX12_product_21 : decode cX12_product 21 = .ok (.getfield 336, 3) := by decide +kernel
theorem dX12_product_24 : decode cX12_product 24 = .ok (.bipush 47, 2) := by decide +kernel
theorem dX12_product_26 : decode cX12_product 26 = .ok (.if_icmp .eq 12, 3) := by decide +kernel
theorem dX12_product_29 : decode cX12_product 29 = .ok (.aload_n 0, 1) := by decide +kernel
theorem dX12_product_30 : decode cX12_product 30 = .ok (.getfield 336, 3) := by decide +kernel
theorem dX12_product_33 : decode cX12_product 33 = .ok (.bipush 37, 2) := by decide +kernel
theorem dX12_product_35 : decode cX12_product 35 = .ok (.if_icmp .ne 25, 3) := by decide +kernel
theorem dX12_product_38 : decode cX12_product 38 = .ok (.aload_n 0, 1) := by decide +kernel
theorem dX12_product_39 : decode cX12_product 39 = .ok (.getfield 336, 3) := by decide +kernel
theorem dX12_product_42 : decode cX12_product 42 = .ok (.istore_n 1, 1) := by decide +kernel
theorem dX12_product_43 : decode cX12_product 43 = .ok (.aload_n 0, 1) := by decide +kernel
theorem dX12_product_44 : decode cX12_product 44 = .ok (.invokevirtual 370, 3) := by decide +kernel
theorem dX12_product_47 : decode cX12_product 47 = .ok (.aload_n 0, 1) := by decide +kernel
theorem dX12_product_48 : decode cX12_product 48 = .ok (.invokevirtual 391, 3) := by decide +kernel
theorem dX12_product_51 : decode cX12_product 51 = .ok (.aload_n 0, 1) := by decide +kernel
theorem dX12_product_52 : decode cX12_product 52 = .ok (.iload_n 1, 1) := by decide +kernel
theorem dX12_product_53 : decode cX12_product 53 = .ok (.iconst 0, 1) := by decide +kernel
theorem dX12_product_54 : decode cX12_product 54 = .ok (.invokevirtual 380, 3) := by decide +kernel
theorem dX12_product_57 : decode cX12_product 57 = .ok (.goto (-53), 3) := by decide +kernel
theorem dX12_product_60 : decode cX12_product 60 = .ok (.return_, 1) := by decide +kernel
theorem dX12_sum_0 : decode cX12_sum 0 = .ok (.aload_n 0, 1) := by decide +kernel
theorem dX12_sum_1 : decode cX12_sum 1 = .ok (.invokevirtual 397, 3) := by decide +kernel
theorem dX12_sum_4 : decode cX12_sum 4 = .ok (.aload_n 0, 1) := by decide +kernel
theorem dX12_sum_5 : decode cX12_sum 5 = .ok (.getfield 355, 3) := by decide +kernel
theorem dX12_sum_8 : decode cX12_sum 8 = .ok (.ifCond .ge 43, 3) := by decide +kernel
theorem dX12_sum_11 : decode cX12_sum 11 = .ok (.aload_n 0, 1) := by decide +kernel
theorem dX12_sum_12 : decode cX12_sum 12 = .ok (.getfield 336, 3) := by decide +kernel
theorem dX12_sum_15 : decode cX12_sum 15 = .ok (.bipush 43, 2) := by decide +kernel
theorem dX12_sum_17 : decode cX12_sum 17 = .ok (.if_icmp .eq 12, 3) := by decide +kernel
theorem dX12_sum_20 : decode cX12_sum 20 = .ok (.aload_n 0, 1) := by decide +kernel
theorem dX12_sum_21 : decode cX12_sum 21 = .ok (.getfield 336, 3) := by decide +kernel
theorem dX12_sum_24 : decode cX12_sum 24 = .ok (.bipush 45, 2) := by decide +kernel
theorem dX12_sum_26 : decode cX12_sum 26 = .ok (.if_icmp .ne 25, 3) := by decide +kernel
theorem dX12_sum_29 : decode cX12_sum 29 = .ok (.aload_n 0, 1) := by decide +kernel
theorem dX12_sum_30 : decode cX12_sum 30 = .ok (.getfield 336, 3) := by decide +kernel
theorem dX12_sum_33 : decode cX12_sum 33 = .ok (.istore_n 1, 1) := by decide +kernel
theorem dX12_sum_34 : decode cX12_sum 34 = .ok (.aload_n 0, 1) := by decide +kernel
theorem dX12_sum_35 : decode cX12_sum 35 = .ok (.invokevirtual 370, 3) := by decide +kernel
theorem dX12_sum_38 : decode cX12_sum 38 = .ok (.aload_n 0, 1) := by decide +kernel
theorem dX12_sum_39 : decode cX12_sum 39 = .ok (.invokevirtual 397, 3) := by decide +kernel
theorem dX12_sum_42 : decode cX12_sum 42 = .ok (.aload_n 0, 1) := by decide +kernel
theorem dX12_sum_43 : decode cX12_sum 43 = .ok (.iload_n 1, 1) := by decide +kernel
theorem dX12_sum_44 : decode cX12_sum 44 = .ok (.iconst 0, 1) := by decide +kernel
theorem dX12_sum_45 : decode cX12_sum 45 = .ok (.invokevirtual 380, 3) := by decide +kernel
theorem dX12_sum_48 : decode cX12_sum 48 = .ok (.goto (-44), 3) := by decide +kernel
theorem dX12_sum_51 : decode cX12_sum 51 = .ok (.return_, 1) := by decide +kernel
theorem dX12_compared_0 : decode cX12_compared 0 = .ok (.aload_n 0, 1) := by decide +kernel
theorem dX12_compared_1 : decode cX12_compared 1 = .ok (.ldc2_w 400, 3) := by decide +kernel
theorem dX12_compared_4 : decode cX12_compared 4 = .ok (.invokevirtual 376, 3) := by decide +kernel
theorem dX12_compared_7 : decode cX12_compared 7 = .ok (.ifCond .eq 32, 3) := by decide +kernel
theorem dX12_compared_10 : decode cX12_compared 10 = .ok (.aload_n 0, 1) := by decide +kernel
theorem dX12_compared_11 : decode cX12_compared 11 = .ok (.invokevirtual 387, 3) := by decide +kernel
theorem dX12_compared_14 : decode cX12_compared 14 = .ok (.ifCond .ne 4, 3) := by decide +kernel
theorem dX12_compared_17 : decode cX12_compared 17 = .ok (.return_, 1) := by decide +kernel
theorem dX12_compared_18 : decode cX12_compared 18 = .ok (.aload_n 0, 1) := by decide +kernel
theorem dX12_compared_19 : decode cX12_compared 19 = .ok (.invokevirtual 402, 3) := by decide +kernel
theorem dX12_compared_22 : decode cX12_compared 22 = .ok (.aload_n 0, 1) := by decide +kernel
theorem dX12_compared_23 : decode cX12_compared 23 = .ok (.dup, 1) := by decide +kernel
theorem dX12_compared_24 : decode cX12_compared 24 = .ok (.getfield 364, 3) := by decide +kernel
theorem dX12_compared_27 : decode cX12_compared 27 = .ok (.iconst 1, 1) := by decide +kernel
theorem dX12_compared_28 : decode cX12_compared 28 = .ok (.isub, 1) := by decide +kernel
theorem dX12_compared_29 : decode cX12_compared 29 = .ok (.putfield 364, 3) := by decide +kernel
theorem dX12_compared_32 : decode cX12_compared 32 = .ok (.aload_n 0, 1) := by decide +kernel
theorem dX12_compared_33 : decode cX12_compared 33 = .ok (.iconst 3, 1) := by decide +kernel
theorem dX12_compared_34 : decode cX12_compared 34 = .ok (.iconst 0, 1) := by decide +kernel
theorem dX12_compared_35 : decode cX12_compared 35 = .ok (.invokevirtual 380, 3) := by decide +kernel
theorem dX12_compared_38 : decode cX12_compared 38 = .ok (.return_, 1) := by decide +kernel
theorem dX12_compared_39 : decode cX12_compared 39 = .ok (.aload_n 0, 1) := by decide +kernel
theorem dX12_compared_40 : decode cX12_compared 40 = .ok (.invokevirtual 405, 3) := by decide +kernel
theorem dX12_compared_43 : decode cX12_compared 43 = .ok (.aload_n 0, 1) := by decide +kernel
theorem dX12_compared_44 : decode cX12_compared 44 = .ok (.getfield 336, 3) := by decide +kernel
theorem dX12_compared_47 : decode cX12_compared 47 = .ok (.istore_n 1, 1) := by decide +kernel
theorem dX12_compared_48 : decode cX12_compared 48 = .ok (.aload_n 0, 1) := by decide +kernel
theorem dX12_compared_49 : decode cX12_compared 49 = .ok (.getfield 355, 3) := by decide +kernel
theorem dX12_compared_52 : decode cX12_compared 52 = .ok (.ifCond .ge 21, 3) := by decide +kernel
theorem dX12_compared_55 : decode cX12_compared 55 = .ok (.iload_n 1, 1) := by decide +kernel
theorem dX12_compared_56 : decode cX12_compared 56 = .ok (.bipush 60, 2) := by decide +kernel
theorem dX12_compared_58 : decode cX12_compared 58 = .ok (.if_icmp .eq 16, 3) := by decide +kernel
theorem dX12_compared_61 : decode cX12_compared 61 = .ok (.iload_n 1, 1) := by decide +kernel
theorem dX12_compared_62 : decode cX12_compared 62 = .ok (.bipush 61, 2) := by decide +kernel
theorem dX12_compared_64 : decode cX12_compared 64 = .ok (.if_icmp .eq 10, 3) := by decide +kernel
theorem dX12_compared_67 : decode cX12_compared 67 = .ok (.iload_n 1, 1) := by decide +kernel
theorem dX12_compared_68 : decode cX12_compared 68 = .ok (.bipush 62, 2) := by decide +kernel
theorem dX12_compared_70 : decode cX12_compared 70 = .ok (.if_icmp .eq 4, 3) := by decide +kernel
theorem dX12_compared_73 : decode cX12_compared 73 = .ok (.return_, 1) := by decide +kernel
theorem dX12_compared_74 : decode cX12_compared 74 = .ok (.aload_n 0, 1) := by decide +kernel
theorem dX12_compared_75 : decode cX12_compared 75 = .ok (.invokevirtual 370, 3) := by decide +kernel
theorem dX12_compared_78 : decode cX12_compared 78 = .ok (.aload_n 0, 1) := by decide +kernel
theorem dX12_compared_79 : decode cX12_compared 79 = .ok (.invokevirtual 405, 3) := by decide +kernel
theorem dX12_compared_82 : decode cX12_compared 82 = .ok (.aload_n 0, 1) := by decide +kernel
theorem dX12_compared_83 : decode cX12_compared 83 = .ok (.iload_n 1, 1) := by decide +kernel
theorem dX12_compared_84 : decode cX12_compared 84 = .ok (.bipush 60, 2) := by decide +kernel
theorem dX12_compared_86 : decode cX12_compared 86 = .ok (.if_icmp .ne 8, 3) := by decide +kernel
theorem dX12_compared_89 : decode cX12_compared 89 = .ok (.bipush 7, 2) := by decide +kernel
theorem dX12_compared_91 : decode cX12_compared 91 = .ok (.goto 16, 3) := by decide +kernel
theorem dX12_compared_94 : decode cX12_compared 94 = .ok (.iload_n 1, 1) := by decide +kernel
theorem dX12_compared_95 : decode cX12_compared 95 = .ok (.bipush 61, 2) := by decide +kernel
theorem dX12_compared_97 : decode cX12_compared 97 = .ok (.if_icmp .ne 8, 3) := by decide +kernel
theorem dX12_compared_100 : decode cX12_compared 100 = .ok (.bipush 8, 2) := by decide +kernel
theorem dX12_compared_102 : decode cX12_compared 102 = .ok (.goto 5, 3) := by decide +kernel
theorem dX12_compared_105 : decode cX12_compared 105 = .ok (.bipush 9, 2) := by decide +kernel
theorem dX12_compared_107 : decode cX12_compared 107 = .ok (.iconst 0, 1) := by decide +kernel
theorem dX12_compared_108 : decode cX12_compared 108 = .ok (.invokevirtual 380, 3) := by decide +kernel
theorem dX12_compared_111 : decode cX12_compared 111 = .ok (.return_, 1) := by decide +kernel
theorem dX12_both_0 : decode cX12_both 0 = .ok (.aload_n 0, 1) := by decide +kernel
theorem dX12_both_1 : decode cX12_both 1 = .ok (.invokevirtual 402, 3) := by decide +kernel
theorem dX12_both_4 : decode cX12_both 4 = .ok (.aload_n 0, 1) := by decide +kernel
theorem dX12_both_5 : decode cX12_both 5 = .ok (.getfield 355, 3) := by decide +kernel
theorem dX12_both_8 : decode cX12_both 8 = .ok (.ifCond .ge 30, 3) := by decide +kernel
theorem dX12_both_11 : decode cX12_both 11 = .ok (.aload_n 0, 1) := by decide +kernel
theorem dX12_both_12 : decode cX12_both 12 = .ok (.ldc2_w 408, 3) := by decide +kernel
theorem dX12_both_15 : decode cX12_both 15 = .ok (.invokevirtual 376, 3) := by decide +kernel
theorem dX12_both_18 : decode cX12_both 18 = .ok (.ifCond .eq 20, 3) := by decide +kernel
theorem dX12_both_21 : decode cX12_both 21 = .ok (.aload_n 0, 1) := by decide +kernel
theorem dX12_both_22 : decode cX12_both 22 = .ok (.invokevirtual 370, 3) := by decide +kernel
theorem dX12_both_25 : decode cX12_both 25 = .ok (.aload_n 0, 1) := by decide +kernel
theorem dX12_both_26 : decode cX12_both 26 = .ok (.invokevirtual 402, 3) := by decide +kernel
theorem dX12_both_29 : decode cX12_both 29 = .ok (.aload_n 0, 1) := by decide +kernel
theorem dX12_both_30 : decode cX12_both 30 = .ok (.iconst 5, 1) := by decide +kernel
theorem dX12_both_31 : decode cX12_both 31 = .ok (.iconst 0, 1) := by decide +kernel
theorem dX12_both_32 : decode cX12_both 32 = .ok (.invokevirtual 380, 3) := by decide +kernel
theorem dX12_both_35 : decode cX12_both 35 = .ok (.goto (-31), 3) := by decide +kernel
theorem dX12_both_38 : decode cX12_both 38 = .ok (.return_, 1) := by decide +kernel
theorem dX12_either_0 : decode cX12_either 0 = .ok (.aload_n 0, 1) := by decide +kernel
theorem dX12_either_1 : decode cX12_either 1 = .ok (.invokevirtual 410, 3) := by decide +kernel
theorem dX12_either_4 : decode cX12_either 4 = .ok (.aload_n 0, 1) := by decide +kernel
theorem dX12_either_5 : decode cX12_either 5 = .ok (.getfield 355, 3) := by decide +kernel
theorem dX12_either_8 : decode cX12_either 8 = .ok (.ifCond .ge 31, 3) := by decide +kernel
theorem dX12_either_11 : decode cX12_either 11 = .ok (.aload_n 0, 1) := by decide +kernel
theorem dX12_either_12 : decode cX12_either 12 = .ok (.ldc2_w 413, 3) := by decide +kernel
theorem dX12_either_15 : decode cX12_either 15 = .ok (.invokevirtual 376, 3) := by decide +kernel
theorem dX12_either_18 : decode cX12_either 18 = .ok (.ifCond .eq 21, 3) := by decide +kernel
theorem dX12_either_21 : decode cX12_either 21 = .ok (.aload_n 0, 1) := by decide +kernel
theorem dX12_either_22 : decode cX12_either 22 = .ok (.invokevirtual 370, 3) := by decide +kernel
theorem dX12_either_25 : decode cX12_either 25 = .ok (.aload_n 0, 1) := by decide +kernel
theorem dX12_either_26 : decode cX12_either 26 = .ok (.invokevirtual 410, 3) := by decide +kernel
theorem dX12_either_29 : decode cX12_either 29 = .ok (.aload_n 0, 1) := by decide +kernel
theorem dX12_either_30 : decode cX12_either 30 = .ok (.bipush 6, 2) := by decide +kernel
theorem dX12_either_32 : decode cX12_either 32 = .ok (.iconst 0, 1) := by decide +kernel
theorem dX12_either_33 : decode cX12_either 33 = .ok (.invokevirtual 380, 3) := by decide +kernel
theorem dX12_either_36 : decode cX12_either 36 = .ok (.goto (-32), 3) := by decide +kernel
theorem dX12_either_39 : decode cX12_either 39 = .ok (.return_, 1) := by decide +kernel
theorem dX12_line_0 : decode cX12_line 0 = .ok (.bipush 81, 2) := by decide +kernel
theorem dX12_line_2 : decode cX12_line 2 = .ok (.aload_n 0, 1) := by decide +kernel
theorem dX12_line_3 : decode cX12_line 3 = .ok (.getfield 358, 3) := by decide +kernel
theorem dX12_line_6 : decode cX12_line 6 = .ok (.imul, 1) := by decide +kernel
theorem dX12_line_7 : decode cX12_line 7 = .ok (.aload_n 0, 1) := by decide +kernel
theorem dX12_line_8 : decode cX12_line 8 = .ok (.getfield 79, 3) := by decide +kernel
theorem dX12_line_11 : decode cX12_line 11 = .ok (.aload_n 0, 1) := by decide +kernel
theorem dX12_line_12 : decode cX12_line 12 = .ok (.getfield 358, 3) := by decide +kernel
theorem dX12_line_15 : decode cX12_line 15 = .ok (.iaload, 1) := by decide +kernel
theorem dX12_line_16 : decode cX12_line 16 = .ok (.iadd, 1) := by decide +kernel
theorem dX12_line_17 : decode cX12_line 17 = .ok (.istore_n 1, 1) := by decide +kernel
theorem dX12_line_18 : decode cX12_line 18 = .ok (.aload_n 0, 1) := by decide +kernel
theorem dX12_line_19 : decode cX12_line 19 = .ok (.ldc2_w 415, 3) := by decide +kernel
theorem dX12_line_22 : decode cX12_line 22 = .ok (.invokevirtual 376, 3) := by decide +kernel
theorem dX12_line_25 : decode cX12_line 25 = .ok (.ifCond .eq 7, 3) := by decide +kernel
theorem dX12_line_28 : decode cX12_line 28 = .ok (.iconst 1, 1) := by decide +kernel
theorem dX12_line_29 : decode cX12_line 29 = .ok (.goto 18, 3) := by decide +kernel
theorem dX12_line_32 : decode cX12_line 32 = .ok (.aload_n 0, 1) := by decide +kernel
theorem dX12_line_33 : decode cX12_line 33 = .ok (.ldc2_w 417, 3) := by decide +kernel
theorem dX12_line_36 : decode cX12_line 36 = .ok (.invokevirtual 376, 3) := by decide +kernel
theorem dX12_line_39 : decode cX12_line 39 = .ok (.ifCond .eq 7, 3) := by decide +kernel
theorem dX12_line_42 : decode cX12_line 42 = .ok (.iconst 2, 1) := by decide +kernel
theorem dX12_line_43 : decode cX12_line 43 = .ok (.goto 4, 3) := by decide +kernel
theorem dX12_line_46 : decode cX12_line 46 = .ok (.iconst 0, 1) := by decide +kernel
theorem dX12_line_47 : decode cX12_line 47 = .ok (.istore_n 2, 1) := by decide +kernel
theorem dX12_line_48 : decode cX12_line 48 = .ok (.aload_n 0, 1) := by decide +kernel
theorem dX12_line_49 : decode cX12_line 49 = .ok (.getfield 85, 3) := by decide +kernel
theorem dX12_line_52 : decode cX12_line 52 = .ok (.iload_n 1, 1) := by decide +kernel
theorem dX12_line_53 : decode cX12_line 53 = .ok (.aload_n 0, 1) := by decide +kernel
theorem dX12_line_54 : decode cX12_line 54 = .ok (.getfield 361, 3) := by decide +kernel
theorem dX12_line_57 : decode cX12_line 57 = .ok (.i2s, 1) := by decide +kernel
theorem dX12_line_58 : decode cX12_line 58 = .ok (.sastore, 1) := by decide +kernel
theorem dX12_line_59 : decode cX12_line 59 = .ok (.iload_n 2, 1) := by decide +kernel
theorem dX12_line_60 : decode cX12_line 60 = .ok (.ifCond .le 48, 3) := by decide +kernel
theorem dX12_line_63 : decode cX12_line 63 = .ok (.aload_n 0, 1) := by decide +kernel
theorem dX12_line_64 : decode cX12_line 64 = .ok (.invokevirtual 370, 3) := by decide +kernel
theorem dX12_line_67 : decode cX12_line 67 = .ok (.aload_n 0, 1) := by decide +kernel
theorem dX12_line_68 : decode cX12_line 68 = .ok (.invokevirtual 394, 3) := by decide +kernel
theorem dX12_line_71 : decode cX12_line 71 = .ok (.aload_n 0, 1) := by decide +kernel
theorem dX12_line_72 : decode cX12_line 72 = .ok (.getfield 355, 3) := by decide +kernel
theorem dX12_line_75 : decode cX12_line 75 = .ok (.ifCond .lt 4, 3) := by decide +kernel
theorem dX12_line_78 : decode cX12_line 78 = .ok (.return_, 1) := by decide +kernel
theorem dX12_line_79 : decode cX12_line 79 = .ok (.aload_n 0, 1) := by decide +kernel
theorem dX12_line_80 : decode cX12_line 80 = .ok (.getfield 336, 3) := by decide +kernel
theorem dX12_line_83 : decode cX12_line 83 = .ok (.bipush 58, 2) := by decide +kernel
theorem dX12_line_85 : decode cX12_line 85 = .ok (.if_icmp .eq 8, 3) := by decide +kernel
theorem dX12_line_88 : decode cX12_line 88 = .ok (.aload_n 0, 1) := by decide +kernel
theorem dX12_line_89 : decode cX12_line 89 = .ok (.invokevirtual 367, 3) := by decide +kernel
theorem dX12_line_92 : decode cX12_line 92 = .ok (.return_, 1) := by decide +kernel
theorem dX12_line_93 : decode cX12_line 93 = .ok (.aload_n 0, 1) := by decide +kernel
theorem dX12_line_94 : decode cX12_line 94 = .ok (.getfield 85, 3) := by decide +kernel
theorem dX12_line_97 : decode cX12_line 97 = .ok (.iload_n 1, 1) := by decide +kernel
theorem dX12_line_98 : decode cX12_line 98 = .ok (.aload_n 0, 1) := by decide +kernel
theorem dX12_line_99 : decode cX12_line 99 = .ok (.getfield 361, 3) := by decide +kernel
theorem dX12_line_102 : decode cX12_line 102 = .ok (.i2s, 1) := by decide +kernel
theorem dX12_line_103 : decode cX12_line 103 = .ok (.sastore, 1) := by decide +kernel
theorem dX12_line_104 : decode cX12_line 104 = .ok (.aload_n 0, 1) := by decide +kernel
theorem dX12_line_105 : decode cX12_line 105 = .ok (.invokevirtual 370, 3) := by decide +kernel
theorem dX12_line_108 : decode cX12_line 108 = .ok (.aload_n 0, 1) := by decide +kernel
theorem dX12_line_109 : decode cX12_line 109 = .ok (.invokevirtual 394, 3) := by decide +kernel
theorem dX12_line_112 : decode cX12_line 112 = .ok (.aload_n 0, 1) := by decide +kernel
theorem dX12_line_113 : decode cX12_line 113 = .ok (.getfield 82, 3) := by decide +kernel
theorem dX12_line_116 : decode cX12_line 116 = .ok (.iload_n 1, 1) := by decide +kernel
theorem dX12_line_117 : decode cX12_line 117 = .ok (.iload_n 2, 1) := by decide +kernel
theorem dX12_line_118 : decode cX12_line 118 = .ok (.i2b, 1) := by decide +kernel
theorem dX12_line_119 : decode cX12_line 119 = .ok (.bastore, 1) := by decide +kernel
theorem dX12_line_120 : decode cX12_line 120 = .ok (.aload_n 0, 1) := by decide +kernel
theorem dX12_line_121 : decode cX12_line 121 = .ok (.getfield 88, 3) := by decide +kernel
theorem dX12_line_124 : decode cX12_line 124 = .ok (.iload_n 1, 1) := by decide +kernel
theorem dX12_line_125 : decode cX12_line 125 = .ok (.aload_n 0, 1) := by decide +kernel
theorem dX12_line_126 : decode cX12_line 126 = .ok (.getfield 361, 3) := by decide +kernel
theorem dX12_line_129 : decode cX12_line 129 = .ok (.i2s, 1) := by decide +kernel
theorem dX12_line_130 : decode cX12_line 130 = .ok (.sastore, 1) := by decide +kernel
theorem dX12_line_131 : decode cX12_line 131 = .ok (.aload_n 0, 1) := by decide +kernel
theorem dX12_line_132 : decode cX12_line 132 = .ok (.getfield 79, 3) := by decide +kernel
theorem dX12_line_135 : decode cX12_line 135 = .ok (.aload_n 0, 1) := by decide +kernel
theorem dX12_line_136 : decode cX12_line 136 = .ok (.getfield 358, 3) := by decide +kernel
theorem dX12_line_139 : decode cX12_line 139 = .ok (.dup2, 1) := by decide +kernel
theorem dX12_line_140 : decode cX12_line 140 = .ok (.iaload, 1) := by decide +kernel
theorem dX12_line_141 : decode cX12_line 141 = .ok (.iconst 1, 1) := by decide +kernel
theorem dX12_line_142 : decode cX12_line 142 = .ok (.iadd, 1) := by decide +kernel
theorem dX12_line_143 : decode cX12_line 143 = .ok (.iastore, 1) := by decide +kernel
theorem dX12_line_144 : decode cX12_line 144 = .ok (.return_, 1) := by decide +kernel
theorem dX12_isUse_0 : decode cX12_isUse 0 = .ok (.iload_n 0, 1) := by decide +kernel
theorem dX12_isUse_1 : decode cX12_isUse 1 = .ok (.iconst 0, 1) := by decide +kernel
theorem dX12_isUse_2 : decode cX12_isUse 2 = .ok (.iconst 4, 1) := by decide +kernel
theorem dX12_isUse_3 : decode cX12_isUse 3 = .ok (.invokestatic 195, 3) := by decide +kernel
theorem dX12_isUse_6 : decode cX12_isUse 6 = .ok (.ifCond .ne 14, 3) := by decide +kernel
theorem dX12_isUse_9 : decode cX12_isUse 9 = .ok (.iload_n 0, 1) := by decide +kernel
theorem dX12_isUse_10 : decode cX12_isUse 10 = .ok (.bipush 10, 2) := by decide +kernel
theorem dX12_isUse_12 : decode cX12_isUse 12 = .ok (.bipush 19, 2) := by decide +kernel
theorem dX12_isUse_14 : decode cX12_isUse 14 = .ok (.invokestatic 195, 3) := by decide +kernel
theorem dX12_isUse_17 : decode cX12_isUse 17 = .ok (.ifCond .eq 7, 3) := by decide +kernel
theorem dX12_isUse_20 : decode cX12_isUse 20 = .ok (.iconst 1, 1) := by decide +kernel
theorem dX12_isUse_21 : decode cX12_isUse 21 = .ok (.goto 4, 3) := by decide +kernel
theorem dX12_isUse_24 : decode cX12_isUse 24 = .ok (.iconst 0, 1) := by decide +kernel
theorem dX12_isUse_25 : decode cX12_isUse 25 = .ok (.ireturn, 1) := by decide +kernel
theorem dX12_rule_0 : decode cX12_rule 0 = .ok (.iload_n 1, 1) := by decide +kernel
theorem dX12_rule_1 : decode cX12_rule 1 = .ok (.invokestatic 419, 3) := by decide +kernel
theorem dX12_rule_4 : decode cX12_rule 4 = .ok (.ifCond .eq 10, 3) := by decide +kernel
theorem dX12_rule_7 : decode cX12_rule 7 = .ok (.iload_n 2, 1) := by decide +kernel
theorem dX12_rule_8 : decode cX12_rule 8 = .ok (.invokestatic 245, 3) := by decide +kernel
theorem dX12_rule_11 : decode cX12_rule 11 = .ok (.ifCond .ne 5, 3) := by decide +kernel
theorem dX12_rule_14 : decode cX12_rule 14 = .ok (.iconst (-1), 1) := by decide +kernel
theorem dX12_rule_15 : decode cX12_rule 15 = .ok (.ireturn, 1) := by decide +kernel
theorem dX12_rule_16 : decode cX12_rule 16 = .ok (.aload_n 0, 1) := by decide +kernel
theorem dX12_rule_17 : decode cX12_rule 17 = .ok (.getfield 358, 3) := by decide +kernel
theorem dX12_rule_20 : decode cX12_rule 20 = .ok (.bipush 20, 2) := by decide +kernel
theorem dX12_rule_22 : decode cX12_rule 22 = .ok (.if_icmp .ne 6, 3) := by decide +kernel
theorem dX12_rule_25 : decode cX12_rule 25 = .ok (.bipush (-3), 2) := by decide +kernel
theorem dX12_rule_27 : decode cX12_rule 27 = .ok (.ireturn, 1) := by decide +kernel
theorem dX12_rule_28 : decode cX12_rule 28 = .ok (.aload_n 0, 1) := by decide +kernel
theorem dX12_rule_29 : decode cX12_rule 29 = .ok (.iconst (-1), 1) := by decide +kernel
theorem dX12_rule_30 : decode cX12_rule 30 = .ok (.putfield 355, 3) := by decide +kernel
theorem dX12_rule_33 : decode cX12_rule 33 = .ok (.aload_n 0, 1) := by decide +kernel
theorem dX12_rule_34 : decode cX12_rule 34 = .ok (.iconst 0, 1) := by decide +kernel
theorem dX12_rule_35 : decode cX12_rule 35 = .ok (.putfield 364, 3) := by decide +kernel
theorem dX12_rule_38 : decode cX12_rule 38 = .ok (.aload_n 0, 1) := by decide +kernel
theorem dX12_rule_39 : decode cX12_rule 39 = .ok (.iconst 0, 1) := by decide +kernel
theorem dX12_rule_40 : decode cX12_rule 40 = .ok (.putfield 361, 3) := by decide +kernel
theorem dX12_rule_43 : decode cX12_rule 43 = .ok (.aload_n 0, 1) := by decide +kernel
theorem dX12_rule_44 : decode cX12_rule 44 = .ok (.iconst 0, 1) := by decide +kernel
theorem dX12_rule_45 : decode cX12_rule 45 = .ok (.putfield 330, 3) := by decide +kernel
theorem dX12_rule_48 : decode cX12_rule 48 = .ok (.aload_n 0, 1) := by decide +kernel
theorem dX12_rule_49 : decode cX12_rule 49 = .ok (.getfield 79, 3) := by decide +kernel
theorem dX12_rule_52 : decode cX12_rule 52 = .ok (.aload_n 0, 1) := by decide +kernel
theorem dX12_rule_53 : decode cX12_rule 53 = .ok (.getfield 358, 3) := by decide +kernel
theorem dX12_rule_56 : decode cX12_rule 56 = .ok (.iconst 0, 1) := by decide +kernel
theorem dX12_rule_57 : decode cX12_rule 57 = .ok (.iastore, 1) := by decide +kernel
theorem dX12_rule_58 : decode cX12_rule 58 = .ok (.aload_n 0, 1) := by decide +kernel
theorem dX12_rule_59 : decode cX12_rule 59 = .ok (.invokevirtual 370, 3) := by decide +kernel
theorem dX12_rule_62 : decode cX12_rule 62 = .ok (.aload_n 0, 1) := by decide +kernel
theorem dX12_rule_63 : decode cX12_rule 63 = .ok (.invokevirtual 422, 3) := by decide +kernel
theorem dX12_rule_66 : decode cX12_rule 66 = .ok (.aload_n 0, 1) := by decide +kernel
theorem dX12_rule_67 : decode cX12_rule 67 = .ok (.getfield 355, 3) := by decide +kernel
theorem dX12_rule_70 : decode cX12_rule 70 = .ok (.ifCond .ge 23, 3) := by decide +kernel
theorem dX12_rule_73 : decode cX12_rule 73 = .ok (.aload_n 0, 1) := by decide +kernel
theorem dX12_rule_74 : decode cX12_rule 74 = .ok (.getfield 336, 3) := by decide +kernel
theorem dX12_rule_77 : decode cX12_rule 77 = .ok (.bipush 59, 2) := by decide +kernel
theorem dX12_rule_79 : decode cX12_rule 79 = .ok (.if_icmp .ne 14, 3) := by decide +kernel
theorem dX12_rule_82 : decode cX12_rule 82 = .ok (.aload_n 0, 1) := by decide +kernel
theorem dX12_rule_83 : decode cX12_rule 83 = .ok (.invokevirtual 370, 3) := by decide +kernel
theorem dX12_rule_86 : decode cX12_rule 86 = .ok (.aload_n 0, 1) := by decide +kernel
theorem dX12_rule_87 : decode cX12_rule 87 = .ok (.invokevirtual 422, 3) := by decide +kernel
theorem dX12_rule_90 : decode cX12_rule 90 = .ok (.goto (-24), 3) := by decide +kernel
theorem dX12_rule_93 : decode cX12_rule 93 = .ok (.aload_n 0, 1) := by decide +kernel
theorem dX12_rule_94 : decode cX12_rule 94 = .ok (.getfield 355, 3) := by decide +kernel
theorem dX12_rule_97 : decode cX12_rule 97 = .ok (.ifCond .ge 14, 3) := by decide +kernel
theorem dX12_rule_100 : decode cX12_rule 100 = .ok (.aload_n 0, 1) := by decide +kernel
theorem dX12_rule_101 : decode cX12_rule 101 = .ok (.getfield 336, 3) := by decide +kernel
theorem dX12_rule_104 : decode cX12_rule 104 = .ok (.ifCond .eq 7, 3) := by decide +kernel
theorem dX12_rule_107 : decode cX12_rule 107 = .ok (.aload_n 0, 1) := by decide +kernel
theorem dX12_rule_108 : decode cX12_rule 108 = .ok (.invokevirtual 367, 3) := by decide +kernel
theorem dX12_rule_111 : decode cX12_rule 111 = .ok (.aload_n 0, 1) := by decide +kernel
theorem dX12_rule_112 : decode cX12_rule 112 = .ok (.iconst 0, 1) := by decide +kernel
theorem dX12_rule_113 : decode cX12_rule 113 = .ok (.putfield 327, 3) := by decide +kernel
theorem dX12_rule_116 : decode cX12_rule 116 = .ok (.aload_n 0, 1) := by decide +kernel
theorem dX12_rule_117 : decode cX12_rule 117 = .ok (.getfield 355, 3) := by decide +kernel
theorem dX12_rule_120 : decode cX12_rule 120 = .ok (.ifCond .lt 11, 3) := by decide +kernel
theorem dX12_rule_123 : decode cX12_rule 123 = .ok (.bipush (-100), 2) := by decide +kernel
theorem dX12_rule_125 : decode cX12_rule 125 = .ok (.aload_n 0, 1) := by decide +kernel
theorem dX12_rule_126 : decode cX12_rule 126 = .ok (.getfield 355, 3) := by decide +kernel
theorem dX12_rule_129 : decode cX12_rule 129 = .ok (.isub, 1) := by decide +kernel
theorem dX12_rule_130 : decode cX12_rule 130 = .ok (.ireturn, 1) := by decide +kernel
theorem dX12_rule_131 : decode cX12_rule 131 = .ok (.aload_n 0, 1) := by decide +kernel
theorem dX12_rule_132 : decode cX12_rule 132 = .ok (.getfield 70, 3) := by decide +kernel
theorem dX12_rule_135 : decode cX12_rule 135 = .ok (.aload_n 0, 1) := by decide +kernel
theorem dX12_rule_136 : decode cX12_rule 136 = .ok (.getfield 358, 3) := by decide +kernel
theorem dX12_rule_139 : decode cX12_rule 139 = .ok (.iload_n 1, 1) := by decide +kernel
theorem dX12_rule_140 : decode cX12_rule 140 = .ok (.iastore, 1) := by decide +kernel
theorem dX12_rule_141 : decode cX12_rule 141 = .ok (.aload_n 0, 1) := by decide +kernel
theorem dX12_rule_142 : decode cX12_rule 142 = .ok (.getfield 73, 3) := by decide +kernel
theorem dX12_rule_145 : decode cX12_rule 145 = .ok (.aload_n 0, 1) := by decide +kernel
theorem dX12_rule_146 : decode cX12_rule 146 = .ok (.getfield 358, 3) := by decide +kernel
theorem dX12_rule_149 : decode cX12_rule 149 = .ok (.aload_n 0, 1) := by decide +kernel
theorem dX12_rule_150 : decode cX12_rule 150 = .ok (.getfield 203, 3) := by decide +kernel
theorem dX12_rule_153 : decode cX12_rule 153 = .ok (.iastore, 1) := by decide +kernel
theorem dX12_rule_154 : decode cX12_rule 154 = .ok (.aload_n 0, 1) := by decide +kernel
theorem dX12_rule_155 : decode cX12_rule 155 = .ok (.getfield 76, 3) := by decide +kernel
theorem dX12_rule_158 : decode cX12_rule 158 = .ok (.aload_n 0, 1) := by decide +kernel
theorem dX12_rule_159 : decode cX12_rule 159 = .ok (.getfield 358, 3) := by decide +kernel
theorem dX12_rule_162 : decode cX12_rule 162 = .ok (.iload_n 2, 1) := by decide +kernel
theorem dX12_rule_163 : decode cX12_rule 163 = .ok (.iastore, 1) := by decide +kernel
theorem dX12_rule_164 : decode cX12_rule 164 = .ok (.aload_n 0, 1) := by decide +kernel
theorem dX12_rule_165 : decode cX12_rule 165 = .ok (.dup, 1) := by decide +kernel
theorem dX12_rule_166 : decode cX12_rule 166 = .ok (.getfield 358, 3) := by decide +kernel
theorem dX12_rule_169 : decode cX12_rule 169 = .ok (.iconst 1, 1) := by decide +kernel
theorem dX12_rule_170 : decode cX12_rule 170 = .ok (.iadd, 1) := by decide +kernel
theorem dX12_rule_171 : decode cX12_rule 171 = .ok (.putfield 358, 3) := by decide +kernel
theorem dX12_rule_174 : decode cX12_rule 174 = .ok (.aload_n 0, 1) := by decide +kernel
theorem dX12_rule_175 : decode cX12_rule 175 = .ok (.getfield 358, 3) := by decide +kernel
theorem dX12_rule_178 : decode cX12_rule 178 = .ok (.iconst 1, 1) := by decide +kernel
theorem dX12_rule_179 : decode cX12_rule 179 = .ok (.isub, 1) := by decide +kernel
theorem dX12_rule_180 : decode cX12_rule 180 = .ok (.ireturn, 1) := by decide +kernel
theorem dX12_forceOf_0 : decode cX12_forceOf 0 = .ok (.iconst (-1), 1) := by decide +kernel
theorem dX12_forceOf_1 : decode cX12_forceOf 1 = .ok (.istore 4, 2) := by decide +kernel
theorem dX12_forceOf_3 : decode cX12_forceOf 3 = .ok (.iconst 0, 1) := by decide +kernel
theorem dX12_forceOf_4 : decode cX12_forceOf 4 = .ok (.istore 5, 2) := by decide +kernel
theorem dX12_forceOf_6 : decode cX12_forceOf 6 = .ok (.iload 5, 2) := by decide +kernel
theorem dX12_forceOf_8 : decode cX12_forceOf 8 = .ok (.aload_n 0, 1) := by decide +kernel
theorem dX12_forceOf_9 : decode cX12_forceOf 9 = .ok (.getfield 358, 3) := by decide +kernel
theorem dX12_forceOf_12 : decode cX12_forceOf 12 = .ok (.if_icmp .ge 46, 3) := by decide +kernel
theorem dX12_forceOf_15 : decode cX12_forceOf 15 = .ok (.aload_n 0, 1) := by decide +kernel
theorem dX12_forceOf_16 : decode cX12_forceOf 16 = .ok (.getfield 70, 3) := by decide +kernel
theorem dX12_forceOf_19 : decode cX12_forceOf 19 = .ok (.iload 5, 2) := by decide +kernel
theorem dX12_forceOf_21 : decode cX12_forceOf 21 = .ok (.iaload, 1) := by decide +kernel
theorem dX12_forceOf_22 : decode cX12_forceOf 22 = .ok (.iload_n 1, 1) := by decide +kernel
theorem dX12_forceOf_23 : decode cX12_forceOf 23 = .ok (.if_icmp .ne 29, 3) := by decide +kernel
theorem dX12_forceOf_26 : decode cX12_forceOf 26 = .ok (.aload_n 0, 1) := by decide +kernel
theorem dX12_forceOf_27 : decode cX12_forceOf 27 = .ok (.getfield 73, 3) := by decide +kernel
theorem dX12_forceOf_30 : decode cX12_forceOf 30 = .ok (.iload 5, 2) := by decide +kernel
theorem dX12_forceOf_32 : decode cX12_forceOf 32 = .ok (.iaload, 1) := by decide +kernel
theorem dX12_forceOf_33 : decode cX12_forceOf 33 = .ok (.iload_n 3, 1) := by decide +kernel
theorem dX12_forceOf_34 : decode cX12_forceOf 34 = .ok (.if_icmp .gt 18, 3) := by decide +kernel
theorem dX12_forceOf_37 : decode cX12_forceOf 37 = .ok (.aload_n 0, 1) := by decide +kernel
theorem dX12_forceOf_38 : decode cX12_forceOf 38 = .ok (.getfield 76, 3) := by decide +kernel
theorem dX12_forceOf_41 : decode cX12_forceOf 41 = .ok (.iload 5, 2) := by decide +kernel
theorem dX12_forceOf_43 : decode cX12_forceOf 43 = .ok (.iaload, 1) := by decide +kernel
theorem dX12_forceOf_44 : decode cX12_forceOf 44 = .ok (.iload_n 2, 1) := by decide +kernel
theorem dX12_forceOf_45 : decode cX12_forceOf 45 = .ok (.if_icmp .gt 7, 3) := by decide +kernel
theorem dX12_forceOf_48 : decode cX12_forceOf 48 = .ok (.iload 5, 2) := by decide +kernel
theorem dX12_forceOf_50 : decode cX12_forceOf 50 = .ok (.istore 4, 2) := by decide +kernel
theorem dX12_forceOf_52 : decode cX12_forceOf 52 = .ok (.iinc 5 1, 3) := by decide +kernel
theorem dX12_forceOf_55 : decode cX12_forceOf 55 = .ok (.goto (-49), 3) := by decide +kernel
theorem dX12_forceOf_58 : decode cX12_forceOf 58 = .ok (.iload 4, 2) := by decide +kernel
theorem dX12_forceOf_60 : decode cX12_forceOf 60 = .ok (.ifCond .ge 8, 3) := by decide +kernel
theorem dX12_forceOf_63 : decode cX12_forceOf 63 = .ok (.bipush (-2), 2) := by decide +kernel
theorem dX12_forceOf_65 : decode cX12_forceOf 65 = .ok (.goto 5, 3) := by decide +kernel
theorem dX12_forceOf_68 : decode cX12_forceOf 68 = .ok (.iload 4, 2) := by decide +kernel
theorem dX12_forceOf_70 : decode cX12_forceOf 70 = .ok (.ireturn, 1) := by decide +kernel
theorem dX12_inForce_0 : decode cX12_inForce 0 = .ok (.iload_n 1, 1) := by decide +kernel
theorem dX12_inForce_1 : decode cX12_inForce 1 = .ok (.invokestatic 419, 3) := by decide +kernel
theorem dX12_inForce_4 : decode cX12_inForce 4 = .ok (.ifCond .eq 27, 3) := by decide +kernel
theorem dX12_inForce_7 : decode cX12_inForce 7 = .ok (.iload_n 2, 1) := by decide +kernel
theorem dX12_inForce_8 : decode cX12_inForce 8 = .ok (.invokestatic 245, 3) := by decide +kernel
theorem dX12_inForce_11 : decode cX12_inForce 11 = .ok (.ifCond .eq 20, 3) := by decide +kernel
theorem dX12_inForce_14 : decode cX12_inForce 14 = .ok (.iload_n 3, 1) := by decide +kernel
theorem dX12_inForce_15 : decode cX12_inForce 15 = .ok (.invokestatic 245, 3) := by decide +kernel
theorem dX12_inForce_18 : decode cX12_inForce 18 = .ok (.ifCond .eq 13, 3) := by decide +kernel
theorem dX12_inForce_21 : decode cX12_inForce 21 = .ok (.aload_n 0, 1) := by decide +kernel
theorem dX12_inForce_22 : decode cX12_inForce 22 = .ok (.iload_n 1, 1) := by decide +kernel
theorem dX12_inForce_23 : decode cX12_inForce 23 = .ok (.iload_n 2, 1) := by decide +kernel
theorem dX12_inForce_24 : decode cX12_inForce 24 = .ok (.iload_n 3, 1) := by decide +kernel
theorem dX12_inForce_25 : decode cX12_inForce 25 = .ok (.invokevirtual 425, 3) := by decide +kernel
theorem dX12_inForce_28 : decode cX12_inForce 28 = .ok (.goto 4, 3) := by decide +kernel
theorem dX12_inForce_31 : decode cX12_inForce 31 = .ok (.iconst (-1), 1) := by decide +kernel
theorem dX12_inForce_32 : decode cX12_inForce 32 = .ok (.ireturn, 1) := by decide +kernel
theorem dX12_twoOf_0 : decode cX12_twoOf 0 = .ok (.iload_n 0, 1) := by decide +kernel
theorem dX12_twoOf_1 : decode cX12_twoOf 1 = .ok (.lookupswitch 181 #[(5, 167), (7, 134), (8, 145), (9, 156), (37, 117), (42, 91), (43, 83), (45, 87), (47, 95)], 83) := by decide +kernel
theorem dX12_twoOf_84 : decode cX12_twoOf 84 = .ok (.iload_n 1, 1) := by decide +kernel
theorem dX12_twoOf_85 : decode cX12_twoOf 85 = .ok (.iload_n 2, 1) := by decide +kernel
theorem dX12_twoOf_86 : decode cX12_twoOf 86 = .ok (.iadd, 1) := by decide +kernel
theorem dX12_twoOf_87 : decode cX12_twoOf 87 = .ok (.ireturn, 1) := by decide +kernel
theorem dX12_twoOf_88 : decode cX12_twoOf 88 = .ok (.iload_n 1, 1) := by decide +kernel
theorem dX12_twoOf_89 : decode cX12_twoOf 89 = .ok (.iload_n 2, 1) := by decide +kernel
theorem dX12_twoOf_90 : decode cX12_twoOf 90 = .ok (.isub, 1) := by decide +kernel
theorem dX12_twoOf_91 : decode cX12_twoOf 91 = .ok (.ireturn, 1) := by decide +kernel
theorem dX12_twoOf_92 : decode cX12_twoOf 92 = .ok (.iload_n 1, 1) := by decide +kernel
theorem dX12_twoOf_93 : decode cX12_twoOf 93 = .ok (.iload_n 2, 1) := by decide +kernel
theorem dX12_twoOf_94 : decode cX12_twoOf 94 = .ok (.imul, 1) := by decide +kernel
theorem dX12_twoOf_95 : decode cX12_twoOf 95 = .ok (.ireturn, 1) := by decide +kernel
theorem dX12_twoOf_96 : decode cX12_twoOf 96 = .ok (.iload_n 2, 1) := by decide +kernel
theorem dX12_twoOf_97 : decode cX12_twoOf 97 = .ok (.ifCond .ne 7, 3) := by decide +kernel
theorem dX12_twoOf_100 : decode cX12_twoOf 100 = .ok (.iconst 0, 1) := by decide +kernel
theorem dX12_twoOf_101 : decode cX12_twoOf 101 = .ok (.goto 16, 3) := by decide +kernel
theorem dX12_twoOf_104 : decode cX12_twoOf 104 = .ok (.iload_n 2, 1) := by decide +kernel
theorem dX12_twoOf_105 : decode cX12_twoOf 105 = .ok (.iconst (-1), 1) := by decide +kernel
theorem dX12_twoOf_106 : decode cX12_twoOf 106 = .ok (.if_icmp .ne 8, 3) := by decide +kernel
theorem dX12_twoOf_109 : decode cX12_twoOf 109 = .ok (.iload_n 1, 1) := by decide +kernel
theorem dX12_twoOf_110 : decode cX12_twoOf 110 = .ok (.ineg, 1) := by decide +kernel
theorem dX12_twoOf_111 : decode cX12_twoOf 111 = .ok (.goto 6, 3) := by decide +kernel
theorem dX12_twoOf_114 : decode cX12_twoOf 114 = .ok (.iload_n 1, 1) := by decide +kernel
theorem dX12_twoOf_115 : decode cX12_twoOf 115 = .ok (.iload_n 2, 1) := by decide +kernel
theorem dX12_twoOf_116 : decode cX12_twoOf 116 = .ok (.idiv, 1) := by decide +kernel
theorem dX12_twoOf_117 : decode cX12_twoOf 117 = .ok (.ireturn, 1) := by decide +kernel
theorem dX12_twoOf_118 : decode cX12_twoOf 118 = .ok (.iload_n 2, 1) := by decide +kernel
theorem dX12_twoOf_119 : decode cX12_twoOf 119 = .ok (.ifCond .eq 8, 3) := by decide +kernel
theorem dX12_twoOf_122 : decode cX12_twoOf 122 = .ok (.iload_n 2, 1) := by decide +kernel
theorem dX12_twoOf_123 : decode cX12_twoOf 123 = .ok (.iconst (-1), 1) := by decide +kernel
theorem dX12_twoOf_124 : decode cX12_twoOf 124 = .ok (.if_icmp .ne 7, 3) := by decide +kernel
theorem dX12_twoOf_127 : decode cX12_twoOf 127 = .ok (.iconst 0, 1) := by decide +kernel
theorem dX12_twoOf_128 : decode cX12_twoOf 128 = .ok (.goto 6, 3) := by decide +kernel
theorem dX12_twoOf_131 : decode cX12_twoOf 131 = .ok (.iload_n 1, 1) := by decide +kernel
theorem dX12_twoOf_132 : decode cX12_twoOf 132 = .ok (.iload_n 2, 1) := by decide +kernel
theorem dX12_twoOf_133 : decode cX12_twoOf 133 = .ok (.irem, 1) := by decide +kernel
theorem dX12_twoOf_134 : decode cX12_twoOf 134 = .ok (.ireturn, 1) := by decide +kernel
theorem dX12_twoOf_135 : decode cX12_twoOf 135 = .ok (.iload_n 1, 1) := by decide +kernel
theorem dX12_twoOf_136 : decode cX12_twoOf 136 = .ok (.iload_n 2, 1) := by decide +kernel
theorem dX12_twoOf_137 : decode cX12_twoOf 137 = .ok (.if_icmp .ge 7, 3) := by decide +kernel
theorem dX12_twoOf_140 : decode cX12_twoOf 140 = .ok (.iconst 1, 1) := by decide +kernel
theorem dX12_twoOf_141 : decode cX12_twoOf 141 = .ok (.goto 4, 3) := by decide +kernel
theorem dX12_twoOf_144 : decode cX12_twoOf 144 = .ok (.iconst 0, 1) := by decide +kernel
theorem dX12_twoOf_145 : decode cX12_twoOf 145 = .ok (.ireturn, 1) := by decide +kernel
theorem dX12_twoOf_146 : decode cX12_twoOf 146 = .ok (.iload_n 1, 1) := by decide +kernel
theorem dX12_twoOf_147 : decode cX12_twoOf 147 = .ok (.iload_n 2, 1) := by decide +kernel
theorem dX12_twoOf_148 : decode cX12_twoOf 148 = .ok (.if_icmp .ne 7, 3) := by decide +kernel
theorem dX12_twoOf_151 : decode cX12_twoOf 151 = .ok (.iconst 1, 1) := by decide +kernel
theorem dX12_twoOf_152 : decode cX12_twoOf 152 = .ok (.goto 4, 3) := by decide +kernel
theorem dX12_twoOf_155 : decode cX12_twoOf 155 = .ok (.iconst 0, 1) := by decide +kernel
theorem dX12_twoOf_156 : decode cX12_twoOf 156 = .ok (.ireturn, 1) := by decide +kernel
theorem dX12_twoOf_157 : decode cX12_twoOf 157 = .ok (.iload_n 1, 1) := by decide +kernel
theorem dX12_twoOf_158 : decode cX12_twoOf 158 = .ok (.iload_n 2, 1) := by decide +kernel
theorem dX12_twoOf_159 : decode cX12_twoOf 159 = .ok (.if_icmp .le 7, 3) := by decide +kernel
theorem dX12_twoOf_162 : decode cX12_twoOf 162 = .ok (.iconst 1, 1) := by decide +kernel
theorem dX12_twoOf_163 : decode cX12_twoOf 163 = .ok (.goto 4, 3) := by decide +kernel
theorem dX12_twoOf_166 : decode cX12_twoOf 166 = .ok (.iconst 0, 1) := by decide +kernel
theorem dX12_twoOf_167 : decode cX12_twoOf 167 = .ok (.ireturn, 1) := by decide +kernel
theorem dX12_twoOf_168 : decode cX12_twoOf 168 = .ok (.iload_n 1, 1) := by decide +kernel
theorem dX12_twoOf_169 : decode cX12_twoOf 169 = .ok (.ifCond .eq 11, 3) := by decide +kernel
theorem dX12_twoOf_172 : decode cX12_twoOf 172 = .ok (.iload_n 2, 1) := by decide +kernel
theorem dX12_twoOf_173 : decode cX12_twoOf 173 = .ok (.ifCond .eq 7, 3) := by decide +kernel
theorem dX12_twoOf_176 : decode cX12_twoOf 176 = .ok (.iconst 1, 1) := by decide +kernel
theorem dX12_twoOf_177 : decode cX12_twoOf 177 = .ok (.goto 4, 3) := by decide +kernel
theorem dX12_twoOf_180 : decode cX12_twoOf 180 = .ok (.iconst 0, 1) := by decide +kernel
theorem dX12_twoOf_181 : decode cX12_twoOf 181 = .ok (.ireturn, 1) := by decide +kernel
theorem dX12_twoOf_182 : decode cX12_twoOf 182 = .ok (.iload_n 1, 1) := by decide +kernel
theorem dX12_twoOf_183 : decode cX12_twoOf 183 = .ok (.ifCond .ne 7, 3) := by decide +kernel
theorem dX12_twoOf_186 : decode cX12_twoOf 186 = .ok (.iload_n 2, 1) := by decide +kernel
theorem dX12_twoOf_187 : decode cX12_twoOf 187 = .ok (.ifCond .eq 7, 3) := by decide +kernel
theorem dX12_twoOf_190 : decode cX12_twoOf 190 = .ok (.iconst 1, 1) := by decide +kernel
theorem dX12_twoOf_191 : decode cX12_twoOf 191 = .ok (.goto 4, 3) := by decide +kernel
theorem dX12_twoOf_194 : decode cX12_twoOf 194 = .ok (.iconst 0, 1) := by decide +kernel
theorem dX12_twoOf_195 : decode cX12_twoOf 195 = .ok (.ireturn, 1) := by decide +kernel
theorem dX12_worked_0 : decode cX12_worked 0 = .ok (.iconst 0, 1) := by decide +kernel
theorem dX12_worked_1 : decode cX12_worked 1 = .ok (.istore 4, 2) := by decide +kernel
theorem dX12_worked_3 : decode cX12_worked 3 = .ok (.sipush 170, 3) := by decide +kernel
theorem dX12_worked_6 : decode cX12_worked 6 = .ok (.iload_n 1, 1) := by decide +kernel
theorem dX12_worked_7 : decode cX12_worked 7 = .ok (.imul, 1) := by decide +kernel
theorem dX12_worked_8 : decode cX12_worked 8 = .ok (.iload_n 2, 1) := by decide +kernel
theorem dX12_worked_9 : decode cX12_worked 9 = .ok (.iadd, 1) := by decide +kernel
theorem dX12_worked_10 : decode cX12_worked 10 = .ok (.istore 5, 2) := by decide +kernel
theorem dX12_worked_12 : decode cX12_worked 12 = .ok (.iload 5, 2) := by decide +kernel
theorem dX12_worked_14 : decode cX12_worked 14 = .ok (.sipush 170, 3) := by decide +kernel
theorem dX12_worked_17 : decode cX12_worked 17 = .ok (.iload_n 1, 1) := by decide +kernel
theorem dX12_worked_18 : decode cX12_worked 18 = .ok (.imul, 1) := by decide +kernel
theorem dX12_worked_19 : decode cX12_worked 19 = .ok (.iload_n 3, 1) := by decide +kernel
theorem dX12_worked_20 : decode cX12_worked 20 = .ok (.iadd, 1) := by decide +kernel
theorem dX12_worked_21 : decode cX12_worked 21 = .ok (.if_icmp .ge 167, 3) := by decide +kernel
theorem dX12_worked_24 : decode cX12_worked 24 = .ok (.aload_n 0, 1) := by decide +kernel
theorem dX12_worked_25 : decode cX12_worked 25 = .ok (.getfield 91, 3) := by decide +kernel
theorem dX12_worked_28 : decode cX12_worked 28 = .ok (.iload 5, 2) := by decide +kernel
theorem dX12_worked_30 : decode cX12_worked 30 = .ok (.baload, 1) := by decide +kernel
theorem dX12_worked_31 : decode cX12_worked 31 = .ok (.istore 6, 2) := by decide +kernel
theorem dX12_worked_33 : decode cX12_worked 33 = .ok (.iload 6, 2) := by decide +kernel
theorem dX12_worked_35 : decode cX12_worked 35 = .ok (.iconst 1, 1) := by decide +kernel
theorem dX12_worked_36 : decode cX12_worked 36 = .ok (.if_icmp .eq 9, 3) := by decide +kernel
theorem dX12_worked_39 : decode cX12_worked 39 = .ok (.iload 6, 2) := by decide +kernel
theorem dX12_worked_41 : decode cX12_worked 41 = .ok (.iconst 2, 1) := by decide +kernel
theorem dX12_worked_42 : decode cX12_worked 42 = .ok (.if_icmp .ne 44, 3) := by decide +kernel
theorem dX12_worked_45 : decode cX12_worked 45 = .ok (.aload_n 0, 1) := by decide +kernel
theorem dX12_worked_46 : decode cX12_worked 46 = .ok (.getfield 100, 3) := by decide +kernel
theorem dX12_worked_49 : decode cX12_worked 49 = .ok (.iload 4, 2) := by decide +kernel
theorem dX12_worked_51 : decode cX12_worked 51 = .ok (.iload 6, 2) := by decide +kernel
theorem dX12_worked_53 : decode cX12_worked 53 = .ok (.iconst 1, 1) := by decide +kernel
theorem dX12_worked_54 : decode cX12_worked 54 = .ok (.if_icmp .ne 13, 3) := by decide +kernel
theorem dX12_worked_57 : decode cX12_worked 57 = .ok (.aload_n 0, 1) := by decide +kernel
theorem dX12_worked_58 : decode cX12_worked 58 = .ok (.getfield 94, 3) := by decide +kernel
theorem dX12_worked_61 : decode cX12_worked 61 = .ok (.iload 5, 2) := by decide +kernel
theorem dX12_worked_63 : decode cX12_worked 63 = .ok (.iaload, 1) := by decide +kernel
theorem dX12_worked_64 : decode cX12_worked 64 = .ok (.goto 15, 3) := by decide +kernel
theorem dX12_worked_67 : decode cX12_worked 67 = .ok (.aload_n 0, 1) := by decide +kernel
theorem dX12_worked_68 : decode cX12_worked 68 = .ok (.getfield 97, 3) := by decide +kernel
theorem dX12_worked_71 : decode cX12_worked 71 = .ok (.aload_n 0, 1) := by decide +kernel
theorem dX12_worked_72 : decode cX12_worked 72 = .ok (.getfield 94, 3) := by decide +kernel
theorem dX12_worked_75 : decode cX12_worked 75 = .ok (.iload 5, 2) := by decide +kernel
theorem dX12_worked_77 : decode cX12_worked 77 = .ok (.iaload, 1) := by decide +kernel
theorem dX12_worked_78 : decode cX12_worked 78 = .ok (.iaload, 1) := by decide +kernel
theorem dX12_worked_79 : decode cX12_worked 79 = .ok (.iastore, 1) := by decide +kernel
theorem dX12_worked_80 : decode cX12_worked 80 = .ok (.iinc 4 1, 3) := by decide +kernel
theorem dX12_worked_83 : decode cX12_worked 83 = .ok (.goto 99, 3) := by decide +kernel
theorem dX12_worked_86 : decode cX12_worked 86 = .ok (.iload 6, 2) := by decide +kernel
theorem dX12_worked_88 : decode cX12_worked 88 = .ok (.iconst 3, 1) := by decide +kernel
theorem dX12_worked_89 : decode cX12_worked 89 = .ok (.if_icmp .ne 32, 3) := by decide +kernel
theorem dX12_worked_92 : decode cX12_worked 92 = .ok (.aload_n 0, 1) := by decide +kernel
theorem dX12_worked_93 : decode cX12_worked 93 = .ok (.getfield 100, 3) := by decide +kernel
theorem dX12_worked_96 : decode cX12_worked 96 = .ok (.iload 4, 2) := by decide +kernel
theorem dX12_worked_98 : decode cX12_worked 98 = .ok (.iconst 1, 1) := by decide +kernel
theorem dX12_worked_99 : decode cX12_worked 99 = .ok (.isub, 1) := by decide +kernel
theorem dX12_worked_100 : decode cX12_worked 100 = .ok (.aload_n 0, 1) := by decide +kernel
theorem dX12_worked_101 : decode cX12_worked 101 = .ok (.getfield 100, 3) := by decide +kernel
theorem dX12_worked_104 : decode cX12_worked 104 = .ok (.iload 4, 2) := by decide +kernel
theorem dX12_worked_106 : decode cX12_worked 106 = .ok (.iconst 1, 1) := by decide +kernel
theorem dX12_worked_107 : decode cX12_worked 107 = .ok (.isub, 1) := by decide +kernel
theorem dX12_worked_108 : decode cX12_worked 108 = .ok (.iaload, 1) := by decide +kernel
theorem dX12_worked_109 : decode cX12_worked 109 = .ok (.ifCond .ne 7, 3) := by decide +kernel
theorem dX12_worked_112 : decode cX12_worked 112 = .ok (.iconst 1, 1) := by decide +kernel
theorem dX12_worked_113 : decode cX12_worked 113 = .ok (.goto 4, 3) := by decide +kernel
theorem dX12_worked_116 : decode cX12_worked 116 = .ok (.iconst 0, 1) := by decide +kernel
theorem dX12_worked_117 : decode cX12_worked 117 = .ok (.iastore, 1) := by decide +kernel
theorem dX12_worked_118 : decode cX12_worked 118 = .ok (.goto 64, 3) := by decide +kernel
theorem dX12_worked_121 : decode cX12_worked 121 = .ok (.iload 6, 2) := by decide +kernel
theorem dX12_worked_123 : decode cX12_worked 123 = .ok (.iconst 4, 1) := by decide +kernel
theorem dX12_worked_124 : decode cX12_worked 124 = .ok (.if_icmp .ne 25, 3) := by decide +kernel
theorem dX12_worked_127 : decode cX12_worked 127 = .ok (.aload_n 0, 1) := by decide +kernel
theorem dX12_worked_128 : decode cX12_worked 128 = .ok (.getfield 100, 3) := by decide +kernel
theorem dX12_worked_131 : decode cX12_worked 131 = .ok (.iload 4, 2) := by decide +kernel
theorem dX12_worked_133 : decode cX12_worked 133 = .ok (.iconst 1, 1) := by decide +kernel
theorem dX12_worked_134 : decode cX12_worked 134 = .ok (.isub, 1) := by decide +kernel
theorem dX12_worked_135 : decode cX12_worked 135 = .ok (.aload_n 0, 1) := by decide +kernel
theorem dX12_worked_136 : decode cX12_worked 136 = .ok (.getfield 100, 3) := by decide +kernel
theorem dX12_worked_139 : decode cX12_worked 139 = .ok (.iload 4, 2) := by decide +kernel
theorem dX12_worked_141 : decode cX12_worked 141 = .ok (.iconst 1, 1) := by decide +kernel
theorem dX12_worked_142 : decode cX12_worked 142 = .ok (.isub, 1) := by decide +kernel
theorem dX12_worked_143 : decode cX12_worked 143 = .ok (.iaload, 1) := by decide +kernel
theorem dX12_worked_144 : decode cX12_worked 144 = .ok (.ineg, 1) := by decide +kernel
theorem dX12_worked_145 : decode cX12_worked 145 = .ok (.iastore, 1) := by decide +kernel
theorem dX12_worked_146 : decode cX12_worked 146 = .ok (.goto 36, 3) := by decide +kernel
theorem dX12_worked_149 : decode cX12_worked 149 = .ok (.iinc 4 (-1), 3) := by decide +kernel
theorem dX12_worked_152 : decode cX12_worked 152 = .ok (.aload_n 0, 1) := by decide +kernel
theorem dX12_worked_153 : decode cX12_worked 153 = .ok (.getfield 100, 3) := by decide +kernel
theorem dX12_worked_156 : decode cX12_worked 156 = .ok (.iload 4, 2) := by decide +kernel
theorem dX12_worked_158 : decode cX12_worked 158 = .ok (.iconst 1, 1) := by decide +kernel
theorem dX12_worked_159 : decode cX12_worked 159 = .ok (.isub, 1) := by decide +kernel
theorem dX12_worked_160 : decode cX12_worked 160 = .ok (.iload 6, 2) := by decide +kernel
theorem dX12_worked_162 : decode cX12_worked 162 = .ok (.aload_n 0, 1) := by decide +kernel
theorem dX12_worked_163 : decode cX12_worked 163 = .ok (.getfield 100, 3) := by decide +kernel
theorem dX12_worked_166 : decode cX12_worked 166 = .ok (.iload 4, 2) := by decide +kernel
theorem dX12_worked_168 : decode cX12_worked 168 = .ok (.iconst 1, 1) := by decide +kernel
theorem dX12_worked_169 : decode cX12_worked 169 = .ok (.isub, 1) := by decide +kernel
theorem dX12_worked_170 : decode cX12_worked 170 = .ok (.iaload, 1) := by decide +kernel
theorem dX12_worked_171 : decode cX12_worked 171 = .ok (.aload_n 0, 1) := by decide +kernel
theorem dX12_worked_172 : decode cX12_worked 172 = .ok (.getfield 100, 3) := by decide +kernel
theorem dX12_worked_175 : decode cX12_worked 175 = .ok (.iload 4, 2) := by decide +kernel
theorem dX12_worked_177 : decode cX12_worked 177 = .ok (.iaload, 1) := by decide +kernel
theorem dX12_worked_178 : decode cX12_worked 178 = .ok (.invokestatic 429, 3) := by decide +kernel
theorem dX12_worked_181 : decode cX12_worked 181 = .ok (.iastore, 1) := by decide +kernel
theorem dX12_worked_182 : decode cX12_worked 182 = .ok (.iinc 5 1, 3) := by decide +kernel
theorem dX12_worked_185 : decode cX12_worked 185 = .ok (.goto (-173), 3) := by decide +kernel
theorem dX12_worked_188 : decode cX12_worked 188 = .ok (.aload_n 0, 1) := by decide +kernel
theorem dX12_worked_189 : decode cX12_worked 189 = .ok (.getfield 100, 3) := by decide +kernel
theorem dX12_worked_192 : decode cX12_worked 192 = .ok (.iconst 0, 1) := by decide +kernel
theorem dX12_worked_193 : decode cX12_worked 193 = .ok (.iaload, 1) := by decide +kernel
theorem dX12_worked_194 : decode cX12_worked 194 = .ok (.ireturn, 1) := by decide +kernel
theorem dX12_lineGives_0 : decode cX12_lineGives 0 = .ok (.iconst 0, 1) := by decide +kernel
theorem dX12_lineGives_1 : decode cX12_lineGives 1 = .ok (.istore_n 2, 1) := by decide +kernel
theorem dX12_lineGives_2 : decode cX12_lineGives 2 = .ok (.bipush 81, 2) := by decide +kernel
theorem dX12_lineGives_4 : decode cX12_lineGives 4 = .ok (.iload_n 1, 1) := by decide +kernel
theorem dX12_lineGives_5 : decode cX12_lineGives 5 = .ok (.imul, 1) := by decide +kernel
theorem dX12_lineGives_6 : decode cX12_lineGives 6 = .ok (.istore_n 3, 1) := by decide +kernel
theorem dX12_lineGives_7 : decode cX12_lineGives 7 = .ok (.iload_n 3, 1) := by decide +kernel
theorem dX12_lineGives_8 : decode cX12_lineGives 8 = .ok (.bipush 81, 2) := by decide +kernel
theorem dX12_lineGives_10 : decode cX12_lineGives 10 = .ok (.iload_n 1, 1) := by decide +kernel
theorem dX12_lineGives_11 : decode cX12_lineGives 11 = .ok (.imul, 1) := by decide +kernel
theorem dX12_lineGives_12 : decode cX12_lineGives 12 = .ok (.aload_n 0, 1) := by decide +kernel
theorem dX12_lineGives_13 : decode cX12_lineGives 13 = .ok (.getfield 79, 3) := by decide +kernel
theorem dX12_lineGives_16 : decode cX12_lineGives 16 = .ok (.iload_n 1, 1) := by decide +kernel
theorem dX12_lineGives_17 : decode cX12_lineGives 17 = .ok (.iaload, 1) := by decide +kernel
theorem dX12_lineGives_18 : decode cX12_lineGives 18 = .ok (.iadd, 1) := by decide +kernel
theorem dX12_lineGives_19 : decode cX12_lineGives 19 = .ok (.if_icmp .ge 103, 3) := by decide +kernel
theorem dX12_lineGives_22 : decode cX12_lineGives 22 = .ok (.aload_n 0, 1) := by decide +kernel
theorem dX12_lineGives_23 : decode cX12_lineGives 23 = .ok (.getfield 82, 3) := by decide +kernel
theorem dX12_lineGives_26 : decode cX12_lineGives 26 = .ok (.iload_n 3, 1) := by decide +kernel
theorem dX12_lineGives_27 : decode cX12_lineGives 27 = .ok (.baload, 1) := by decide +kernel
theorem dX12_lineGives_28 : decode cX12_lineGives 28 = .ok (.ifCond .eq 41, 3) := by decide +kernel
theorem dX12_lineGives_31 : decode cX12_lineGives 31 = .ok (.aload_n 0, 1) := by decide +kernel
theorem dX12_lineGives_32 : decode cX12_lineGives 32 = .ok (.iload_n 1, 1) := by decide +kernel
theorem dX12_lineGives_33 : decode cX12_lineGives 33 = .ok (.iload_n 2, 1) := by decide +kernel
theorem dX12_lineGives_34 : decode cX12_lineGives 34 = .ok (.aload_n 0, 1) := by decide +kernel
theorem dX12_lineGives_35 : decode cX12_lineGives 35 = .ok (.getfield 85, 3) := by decide +kernel
theorem dX12_lineGives_38 : decode cX12_lineGives 38 = .ok (.iload_n 3, 1) := by decide +kernel
theorem dX12_lineGives_39 : decode cX12_lineGives 39 = .ok (.saload, 1) := by decide +kernel
theorem dX12_lineGives_40 : decode cX12_lineGives 40 = .ok (.invokevirtual 432, 3) := by decide +kernel
theorem dX12_lineGives_43 : decode cX12_lineGives 43 = .ok (.ifCond .eq 7, 3) := by decide +kernel
theorem dX12_lineGives_46 : decode cX12_lineGives 46 = .ok (.iconst 1, 1) := by decide +kernel
theorem dX12_lineGives_47 : decode cX12_lineGives 47 = .ok (.goto 4, 3) := by decide +kernel
theorem dX12_lineGives_50 : decode cX12_lineGives 50 = .ok (.iconst 0, 1) := by decide +kernel
theorem dX12_lineGives_51 : decode cX12_lineGives 51 = .ok (.aload_n 0, 1) := by decide +kernel
theorem dX12_lineGives_52 : decode cX12_lineGives 52 = .ok (.getfield 82, 3) := by decide +kernel
theorem dX12_lineGives_55 : decode cX12_lineGives 55 = .ok (.iload_n 3, 1) := by decide +kernel
theorem dX12_lineGives_56 : decode cX12_lineGives 56 = .ok (.baload, 1) := by decide +kernel
theorem dX12_lineGives_57 : decode cX12_lineGives 57 = .ok (.iconst 1, 1) := by decide +kernel
theorem dX12_lineGives_58 : decode cX12_lineGives 58 = .ok (.if_icmp .ne 7, 3) := by decide +kernel
theorem dX12_lineGives_61 : decode cX12_lineGives 61 = .ok (.iconst 1, 1) := by decide +kernel
theorem dX12_lineGives_62 : decode cX12_lineGives 62 = .ok (.goto 4, 3) := by decide +kernel
theorem dX12_lineGives_65 : decode cX12_lineGives 65 = .ok (.iconst 0, 1) := by decide +kernel
theorem dX12_lineGives_66 : decode cX12_lineGives 66 = .ok (.if_icmp .ne 7, 3) := by decide +kernel
theorem dX12_lineGives_69 : decode cX12_lineGives 69 = .ok (.iconst 1, 1) := by decide +kernel
theorem dX12_lineGives_70 : decode cX12_lineGives 70 = .ok (.goto 4, 3) := by decide +kernel
theorem dX12_lineGives_73 : decode cX12_lineGives 73 = .ok (.iconst 0, 1) := by decide +kernel
theorem dX12_lineGives_74 : decode cX12_lineGives 74 = .ok (.istore 4, 2) := by decide +kernel
theorem dX12_lineGives_76 : decode cX12_lineGives 76 = .ok (.iload 4, 2) := by decide +kernel
theorem dX12_lineGives_78 : decode cX12_lineGives 78 = .ok (.ifCond .eq 31, 3) := by decide +kernel
theorem dX12_lineGives_81 : decode cX12_lineGives 81 = .ok (.aload_n 0, 1) := by decide +kernel
theorem dX12_lineGives_82 : decode cX12_lineGives 82 = .ok (.iload_n 3, 1) := by decide +kernel
theorem dX12_lineGives_83 : decode cX12_lineGives 83 = .ok (.bipush 81, 2) := by decide +kernel
theorem dX12_lineGives_85 : decode cX12_lineGives 85 = .ok (.iload_n 1, 1) := by decide +kernel
theorem dX12_lineGives_86 : decode cX12_lineGives 86 = .ok (.imul, 1) := by decide +kernel
theorem dX12_lineGives_87 : decode cX12_lineGives 87 = .ok (.isub, 1) := by decide +kernel
theorem dX12_lineGives_88 : decode cX12_lineGives 88 = .ok (.putfield 435, 3) := by decide +kernel
theorem dX12_lineGives_91 : decode cX12_lineGives 91 = .ok (.aload_n 0, 1) := by decide +kernel
theorem dX12_lineGives_92 : decode cX12_lineGives 92 = .ok (.iload_n 1, 1) := by decide +kernel
theorem dX12_lineGives_93 : decode cX12_lineGives 93 = .ok (.aload_n 0, 1) := by decide +kernel
theorem dX12_lineGives_94 : decode cX12_lineGives 94 = .ok (.getfield 85, 3) := by decide +kernel
theorem dX12_lineGives_97 : decode cX12_lineGives 97 = .ok (.iload_n 3, 1) := by decide +kernel
theorem dX12_lineGives_98 : decode cX12_lineGives 98 = .ok (.saload, 1) := by decide +kernel
theorem dX12_lineGives_99 : decode cX12_lineGives 99 = .ok (.aload_n 0, 1) := by decide +kernel
theorem dX12_lineGives_100 : decode cX12_lineGives 100 = .ok (.getfield 88, 3) := by decide +kernel
theorem dX12_lineGives_103 : decode cX12_lineGives 103 = .ok (.iload_n 3, 1) := by decide +kernel
theorem dX12_lineGives_104 : decode cX12_lineGives 104 = .ok (.saload, 1) := by decide +kernel
theorem dX12_lineGives_105 : decode cX12_lineGives 105 = .ok (.invokevirtual 432, 3) := by decide +kernel
theorem dX12_lineGives_108 : decode cX12_lineGives 108 = .ok (.ireturn, 1) := by decide +kernel
theorem dX12_lineGives_109 : decode cX12_lineGives 109 = .ok (.aload_n 0, 1) := by decide +kernel
theorem dX12_lineGives_110 : decode cX12_lineGives 110 = .ok (.getfield 88, 3) := by decide +kernel
theorem dX12_lineGives_113 : decode cX12_lineGives 113 = .ok (.iload_n 3, 1) := by decide +kernel
theorem dX12_lineGives_114 : decode cX12_lineGives 114 = .ok (.saload, 1) := by decide +kernel
theorem dX12_lineGives_115 : decode cX12_lineGives 115 = .ok (.istore_n 2, 1) := by decide +kernel
theorem dX12_lineGives_116 : decode cX12_lineGives 116 = .ok (.iinc 3 1, 3) := by decide +kernel
theorem dX12_lineGives_119 : decode cX12_lineGives 119 = .ok (.goto (-112), 3) := by decide +kernel
theorem dX12_lineGives_122 : decode cX12_lineGives 122 = .ok (.aload_n 0, 1) := by decide +kernel
theorem dX12_lineGives_123 : decode cX12_lineGives 123 = .ok (.iconst (-1), 1) := by decide +kernel
theorem dX12_lineGives_124 : decode cX12_lineGives 124 = .ok (.putfield 435, 3) := by decide +kernel
theorem dX12_lineGives_127 : decode cX12_lineGives 127 = .ok (.iconst 0, 1) := by decide +kernel
theorem dX12_lineGives_128 : decode cX12_lineGives 128 = .ok (.ireturn, 1) := by decide +kernel
theorem dX12_lawBy_0 : decode cX12_lawBy 0 = .ok (.aload_n 0, 1) := by decide +kernel
theorem dX12_lawBy_1 : decode cX12_lawBy 1 = .ok (.iload_n 1, 1) := by decide +kernel
theorem dX12_lawBy_2 : decode cX12_lawBy 2 = .ok (.iload_n 2, 1) := by decide +kernel
theorem dX12_lawBy_3 : decode cX12_lawBy 3 = .ok (.iload_n 3, 1) := by decide +kernel
theorem dX12_lawBy_4 : decode cX12_lawBy 4 = .ok (.invokevirtual 425, 3) := by decide +kernel
theorem dX12_lawBy_7 : decode cX12_lawBy 7 = .ok (.istore 5, 2) := by decide +kernel
theorem dX12_lawBy_9 : decode cX12_lawBy 9 = .ok (.aload_n 0, 1) := by decide +kernel
theorem dX12_lawBy_10 : decode cX12_lawBy 10 = .ok (.iconst (-1), 1) := by decide +kernel
theorem dX12_lawBy_11 : decode cX12_lawBy 11 = .ok (.putfield 435, 3) := by decide +kernel
theorem dX12_lawBy_14 : decode cX12_lawBy 14 = .ok (.iload 5, 2) := by decide +kernel
theorem dX12_lawBy_16 : decode cX12_lawBy 16 = .ok (.ifCond .ge 8, 3) := by decide +kernel
theorem dX12_lawBy_19 : decode cX12_lawBy 19 = .ok (.iload 4, 2) := by decide +kernel
theorem dX12_lawBy_21 : decode cX12_lawBy 21 = .ok (.goto 9, 3) := by decide +kernel
theorem dX12_lawBy_24 : decode cX12_lawBy 24 = .ok (.aload_n 0, 1) := by decide +kernel
theorem dX12_lawBy_25 : decode cX12_lawBy 25 = .ok (.iload 5, 2) := by decide +kernel
theorem dX12_lawBy_27 : decode cX12_lawBy 27 = .ok (.invokevirtual 298, 3) := by decide +kernel
theorem dX12_lawBy_30 : decode cX12_lawBy 30 = .ok (.ireturn, 1) := by decide +kernel
theorem dX12_findDay_0 : decode cX12_findDay 0 = .ok (.iconst 0, 1) := by decide +kernel
theorem dX12_findDay_1 : decode cX12_findDay 1 = .ok (.istore_n 2, 1) := by decide +kernel
theorem dX12_findDay_2 : decode cX12_findDay 2 = .ok (.iload_n 2, 1) := by decide +kernel
theorem dX12_findDay_3 : decode cX12_findDay 3 = .ok (.aload_n 0, 1) := by decide +kernel
theorem dX12_findDay_4 : decode cX12_findDay 4 = .ok (.getfield 97, 3) := by decide +kernel
theorem dX12_findDay_7 : decode cX12_findDay 7 = .ok (.arraylength, 1) := by decide +kernel
theorem dX12_findDay_8 : decode cX12_findDay 8 = .ok (.if_icmp .ge 16, 3) := by decide +kernel
theorem dX12_findDay_11 : decode cX12_findDay 11 = .ok (.aload_n 0, 1) := by decide +kernel
theorem dX12_findDay_12 : decode cX12_findDay 12 = .ok (.getfield 97, 3) := by decide +kernel
theorem dX12_findDay_15 : decode cX12_findDay 15 = .ok (.iload_n 2, 1) := by decide +kernel
theorem dX12_findDay_16 : decode cX12_findDay 16 = .ok (.iconst 0, 1) := by decide +kernel
theorem dX12_findDay_17 : decode cX12_findDay 17 = .ok (.iastore, 1) := by decide +kernel
theorem dX12_findDay_18 : decode cX12_findDay 18 = .ok (.iinc 2 1, 3) := by decide +kernel
theorem dX12_findDay_21 : decode cX12_findDay 21 = .ok (.goto (-19), 3) := by decide +kernel
theorem dX12_findDay_24 : decode cX12_findDay 24 = .ok (.aload_n 0, 1) := by decide +kernel
theorem dX12_findDay_25 : decode cX12_findDay 25 = .ok (.getfield 97, 3) := by decide +kernel
theorem dX12_findDay_28 : decode cX12_findDay 28 = .ok (.iconst 0, 1) := by decide +kernel
theorem dX12_findDay_29 : decode cX12_findDay 29 = .ok (.iload_n 1, 1) := by decide +kernel
theorem dX12_findDay_30 : decode cX12_findDay 30 = .ok (.iastore, 1) := by decide +kernel
theorem dX12_findDay_31 : decode cX12_findDay 31 = .ok (.return_, 1) := by decide +kernel
theorem dX12_findFinder_0 : decode cX12_findFinder 0 = .ok (.aload_n 0, 1) := by decide +kernel
theorem dX12_findFinder_1 : decode cX12_findFinder 1 = .ok (.iload_n 2, 1) := by decide +kernel
theorem dX12_findFinder_2 : decode cX12_findFinder 2 = .ok (.invokevirtual 438, 3) := by decide +kernel
theorem dX12_findFinder_5 : decode cX12_findFinder 5 = .ok (.aload_n 0, 1) := by decide +kernel
theorem dX12_findFinder_6 : decode cX12_findFinder 6 = .ok (.getfield 97, 3) := by decide +kernel
theorem dX12_findFinder_9 : decode cX12_findFinder 9 = .ok (.iconst 2, 1) := by decide +kernel
theorem dX12_findFinder_10 : decode cX12_findFinder 10 = .ok (.aload_n 0, 1) := by decide +kernel
theorem dX12_findFinder_11 : decode cX12_findFinder 11 = .ok (.iload_n 1, 1) := by decide +kernel
theorem dX12_findFinder_12 : decode cX12_findFinder 12 = .ok (.invokevirtual 258, 3) := by decide +kernel
theorem dX12_findFinder_15 : decode cX12_findFinder 15 = .ok (.iastore, 1) := by decide +kernel
theorem dX12_findFinder_16 : decode cX12_findFinder 16 = .ok (.aload_n 0, 1) := by decide +kernel
theorem dX12_findFinder_17 : decode cX12_findFinder 17 = .ok (.getfield 97, 3) := by decide +kernel
theorem dX12_findFinder_20 : decode cX12_findFinder 20 = .ok (.iconst 3, 1) := by decide +kernel
theorem dX12_findFinder_21 : decode cX12_findFinder 21 = .ok (.iload_n 2, 1) := by decide +kernel
theorem dX12_findFinder_22 : decode cX12_findFinder 22 = .ok (.aload_n 0, 1) := by decide +kernel
theorem dX12_findFinder_23 : decode cX12_findFinder 23 = .ok (.getfield 19, 3) := by decide +kernel
theorem dX12_findFinder_26 : decode cX12_findFinder 26 = .ok (.iload_n 1, 1) := by decide +kernel
theorem dX12_findFinder_27 : decode cX12_findFinder 27 = .ok (.iaload, 1) := by decide +kernel
theorem dX12_findFinder_28 : decode cX12_findFinder 28 = .ok (.isub, 1) := by decide +kernel
theorem dX12_findFinder_29 : decode cX12_findFinder 29 = .ok (.iastore, 1) := by decide +kernel
theorem dX12_findFinder_30 : decode cX12_findFinder 30 = .ok (.return_, 1) := by decide +kernel
theorem dX12_findBox_0 : decode cX12_findBox 0 = .ok (.aload_n 0, 1) := by decide +kernel
theorem dX12_findBox_1 : decode cX12_findBox 1 = .ok (.getfield 97, 3) := by decide +kernel
theorem dX12_findBox_4 : decode cX12_findBox 4 = .ok (.iconst 1, 1) := by decide +kernel
theorem dX12_findBox_5 : decode cX12_findBox 5 = .ok (.aload_n 0, 1) := by decide +kernel
theorem dX12_findBox_6 : decode cX12_findBox 6 = .ok (.getfield 13, 3) := by decide +kernel
theorem dX12_findBox_9 : decode cX12_findBox 9 = .ok (.iload_n 1, 1) := by decide +kernel
theorem dX12_findBox_10 : decode cX12_findBox 10 = .ok (.iaload, 1) := by decide +kernel
theorem dX12_findBox_11 : decode cX12_findBox 11 = .ok (.iastore, 1) := by decide +kernel
theorem dX12_findBox_12 : decode cX12_findBox 12 = .ok (.aload_n 0, 1) := by decide +kernel
theorem dX12_findBox_13 : decode cX12_findBox 13 = .ok (.getfield 97, 3) := by decide +kernel
theorem dX12_findBox_16 : decode cX12_findBox 16 = .ok (.iconst 4, 1) := by decide +kernel
theorem dX12_findBox_17 : decode cX12_findBox 17 = .ok (.iload_n 2, 1) := by decide +kernel
theorem dX12_findBox_18 : decode cX12_findBox 18 = .ok (.aload_n 0, 1) := by decide +kernel
theorem dX12_findBox_19 : decode cX12_findBox 19 = .ok (.getfield 19, 3) := by decide +kernel
theorem dX12_findBox_22 : decode cX12_findBox 22 = .ok (.iload_n 1, 1) := by decide +kernel
theorem dX12_findBox_23 : decode cX12_findBox 23 = .ok (.iaload, 1) := by decide +kernel
theorem dX12_findBox_24 : decode cX12_findBox 24 = .ok (.isub, 1) := by decide +kernel
theorem dX12_findBox_25 : decode cX12_findBox 25 = .ok (.iastore, 1) := by decide +kernel
theorem dX12_findBox_26 : decode cX12_findBox 26 = .ok (.aload_n 0, 1) := by decide +kernel
theorem dX12_findBox_27 : decode cX12_findBox 27 = .ok (.getfield 97, 3) := by decide +kernel
theorem dX12_findBox_30 : decode cX12_findBox 30 = .ok (.iconst 5, 1) := by decide +kernel
theorem dX12_findBox_31 : decode cX12_findBox 31 = .ok (.aload_n 0, 1) := by decide +kernel
theorem dX12_findBox_32 : decode cX12_findBox 32 = .ok (.iload_n 1, 1) := by decide +kernel
theorem dX12_findBox_33 : decode cX12_findBox 33 = .ok (.invokevirtual 264, 3) := by decide +kernel
theorem dX12_findBox_36 : decode cX12_findBox 36 = .ok (.iastore, 1) := by decide +kernel
theorem dX12_findBox_37 : decode cX12_findBox 37 = .ok (.aload_n 0, 1) := by decide +kernel
theorem dX12_findBox_38 : decode cX12_findBox 38 = .ok (.getfield 97, 3) := by decide +kernel
theorem dX12_findBox_41 : decode cX12_findBox 41 = .ok (.bipush 6, 2) := by decide +kernel
theorem dX12_findBox_43 : decode cX12_findBox 43 = .ok (.aload_n 0, 1) := by decide +kernel
theorem dX12_findBox_44 : decode cX12_findBox 44 = .ok (.iload_n 1, 1) := by decide +kernel
theorem dX12_findBox_45 : decode cX12_findBox 45 = .ok (.invokevirtual 267, 3) := by decide +kernel
theorem dX12_findBox_48 : decode cX12_findBox 48 = .ok (.iastore, 1) := by decide +kernel
theorem dX12_findBox_49 : decode cX12_findBox 49 = .ok (.return_, 1) := by decide +kernel
theorem dX12_bothOf_0 : decode cX12_bothOf 0 = .ok (.aload_n 0, 1) := by decide +kernel
theorem dX12_bothOf_1 : decode cX12_bothOf 1 = .ok (.getfield 97, 3) := by decide +kernel
theorem dX12_bothOf_4 : decode cX12_bothOf 4 = .ok (.bipush 8, 2) := by decide +kernel
theorem dX12_bothOf_6 : decode cX12_bothOf 6 = .ok (.aload_n 0, 1) := by decide +kernel
theorem dX12_bothOf_7 : decode cX12_bothOf 7 = .ok (.getfield 16, 3) := by decide +kernel
theorem dX12_bothOf_10 : decode cX12_bothOf 10 = .ok (.iload_n 1, 1) := by decide +kernel
theorem dX12_bothOf_11 : decode cX12_bothOf 11 = .ok (.iaload, 1) := by decide +kernel
theorem dX12_bothOf_12 : decode cX12_bothOf 12 = .ok (.aload_n 0, 1) := by decide +kernel
theorem dX12_bothOf_13 : decode cX12_bothOf 13 = .ok (.iload_n 2, 1) := by decide +kernel
theorem dX12_bothOf_14 : decode cX12_bothOf 14 = .ok (.invokevirtual 239, 3) := by decide +kernel
theorem dX12_bothOf_17 : decode cX12_bothOf 17 = .ok (.invokestatic 308, 3) := by decide +kernel
theorem dX12_bothOf_20 : decode cX12_bothOf 20 = .ok (.iastore, 1) := by decide +kernel
theorem dX12_bothOf_21 : decode cX12_bothOf 21 = .ok (.aload_n 0, 1) := by decide +kernel
theorem dX12_bothOf_22 : decode cX12_bothOf 22 = .ok (.getfield 97, 3) := by decide +kernel
theorem dX12_bothOf_25 : decode cX12_bothOf 25 = .ok (.bipush 9, 2) := by decide +kernel
theorem dX12_bothOf_27 : decode cX12_bothOf 27 = .ok (.aload_n 0, 1) := by decide +kernel
theorem dX12_bothOf_28 : decode cX12_bothOf 28 = .ok (.iload_n 1, 1) := by decide +kernel
theorem dX12_bothOf_29 : decode cX12_bothOf 29 = .ok (.iload_n 2, 1) := by decide +kernel
theorem dX12_bothOf_30 : decode cX12_bothOf 30 = .ok (.invokevirtual 282, 3) := by decide +kernel
theorem dX12_bothOf_33 : decode cX12_bothOf 33 = .ok (.ifCond .eq 7, 3) := by decide +kernel
theorem dX12_bothOf_36 : decode cX12_bothOf 36 = .ok (.iconst 1, 1) := by decide +kernel
theorem dX12_bothOf_37 : decode cX12_bothOf 37 = .ok (.goto 4, 3) := by decide +kernel
theorem dX12_bothOf_40 : decode cX12_bothOf 40 = .ok (.iconst 0, 1) := by decide +kernel
theorem dX12_bothOf_41 : decode cX12_bothOf 41 = .ok (.iastore, 1) := by decide +kernel
theorem dX12_bothOf_42 : decode cX12_bothOf 42 = .ok (.aload_n 0, 1) := by decide +kernel
theorem dX12_bothOf_43 : decode cX12_bothOf 43 = .ok (.getfield 97, 3) := by decide +kernel
theorem dX12_bothOf_46 : decode cX12_bothOf 46 = .ok (.bipush 10, 2) := by decide +kernel
theorem dX12_bothOf_48 : decode cX12_bothOf 48 = .ok (.aload_n 0, 1) := by decide +kernel
theorem dX12_bothOf_49 : decode cX12_bothOf 49 = .ok (.getfield 25, 3) := by decide +kernel
theorem dX12_bothOf_52 : decode cX12_bothOf 52 = .ok (.iload_n 2, 1) := by decide +kernel
theorem dX12_bothOf_53 : decode cX12_bothOf 53 = .ok (.iaload, 1) := by decide +kernel
theorem dX12_bothOf_54 : decode cX12_bothOf 54 = .ok (.iload_n 1, 1) := by decide +kernel
theorem dX12_bothOf_55 : decode cX12_bothOf 55 = .ok (.if_icmp .ne 7, 3) := by decide +kernel
theorem dX12_bothOf_58 : decode cX12_bothOf 58 = .ok (.iconst 1, 1) := by decide +kernel
theorem dX12_bothOf_59 : decode cX12_bothOf 59 = .ok (.goto 4, 3) := by decide +kernel
theorem dX12_bothOf_62 : decode cX12_bothOf 62 = .ok (.iconst 0, 1) := by decide +kernel
theorem dX12_bothOf_63 : decode cX12_bothOf 63 = .ok (.iastore, 1) := by decide +kernel
theorem dX12_bothOf_64 : decode cX12_bothOf 64 = .ok (.return_, 1) := by decide +kernel
theorem dX12_nearNow_0 : decode cX12_nearNow 0 = .ok (.aload_n 0, 1) := by decide +kernel
theorem dX12_nearNow_1 : decode cX12_nearNow 1 = .ok (.aload_n 0, 1) := by decide +kernel
theorem dX12_nearNow_2 : decode cX12_nearNow 2 = .ok (.getfield 203, 3) := by decide +kernel
theorem dX12_nearNow_5 : decode cX12_nearNow 5 = .ok (.invokevirtual 438, 3) := by decide +kernel
theorem dX12_nearNow_8 : decode cX12_nearNow 8 = .ok (.aload_n 0, 1) := by decide +kernel
theorem dX12_nearNow_9 : decode cX12_nearNow 9 = .ok (.iconst 0, 1) := by decide +kernel
theorem dX12_nearNow_10 : decode cX12_nearNow 10 = .ok (.aload_n 0, 1) := by decide +kernel
theorem dX12_nearNow_11 : decode cX12_nearNow 11 = .ok (.getfield 203, 3) := by decide +kernel
theorem dX12_nearNow_14 : decode cX12_nearNow 14 = .ok (.aload_n 0, 1) := by decide +kernel
theorem dX12_nearNow_15 : decode cX12_nearNow 15 = .ok (.getfield 203, 3) := by decide +kernel
theorem dX12_nearNow_18 : decode cX12_nearNow 18 = .ok (.iconst 2, 1) := by decide +kernel
theorem dX12_nearNow_19 : decode cX12_nearNow 19 = .ok (.invokevirtual 301, 3) := by decide +kernel
theorem dX12_nearNow_22 : decode cX12_nearNow 22 = .ok (.istore_n 1, 1) := by decide +kernel
theorem dX12_nearNow_23 : decode cX12_nearNow 23 = .ok (.iload_n 1, 1) := by decide +kernel
theorem dX12_nearNow_24 : decode cX12_nearNow 24 = .ok (.ifCond .ge 7, 3) := by decide +kernel
theorem dX12_nearNow_27 : decode cX12_nearNow 27 = .ok (.iconst 0, 1) := by decide +kernel
theorem dX12_nearNow_28 : decode cX12_nearNow 28 = .ok (.goto 15, 3) := by decide +kernel
theorem dX12_nearNow_31 : decode cX12_nearNow 31 = .ok (.iload_n 1, 1) := by decide +kernel
theorem dX12_nearNow_32 : decode cX12_nearNow 32 = .ok (.bipush 15, 2) := by decide +kernel
theorem dX12_nearNow_34 : decode cX12_nearNow 34 = .ok (.if_icmp .le 8, 3) := by decide +kernel
theorem dX12_nearNow_37 : decode cX12_nearNow 37 = .ok (.bipush 15, 2) := by decide +kernel
theorem dX12_nearNow_39 : decode cX12_nearNow 39 = .ok (.goto 4, 3) := by decide +kernel
theorem dX12_nearNow_42 : decode cX12_nearNow 42 = .ok (.iload_n 1, 1) := by decide +kernel
theorem dX12_nearNow_43 : decode cX12_nearNow 43 = .ok (.ireturn, 1) := by decide +kernel
theorem dX12_hideBy_0 : decode cX12_hideBy 0 = .ok (.aload_n 0, 1) := by decide +kernel
theorem dX12_hideBy_1 : decode cX12_hideBy 1 = .ok (.iload_n 1, 1) := by decide +kernel
theorem dX12_hideBy_2 : decode cX12_hideBy 2 = .ok (.aload_n 0, 1) := by decide +kernel
theorem dX12_hideBy_3 : decode cX12_hideBy 3 = .ok (.getfield 203, 3) := by decide +kernel
theorem dX12_hideBy_6 : decode cX12_hideBy 6 = .ok (.invokevirtual 288, 3) := by decide +kernel
theorem dX12_hideBy_9 : decode cX12_hideBy 9 = .ok (.aload_n 0, 1) := by decide +kernel
theorem dX12_hideBy_10 : decode cX12_hideBy 10 = .ok (.getfield 97, 3) := by decide +kernel
theorem dX12_hideBy_13 : decode cX12_hideBy 13 = .ok (.iconst 1, 1) := by decide +kernel
theorem dX12_hideBy_14 : decode cX12_hideBy 14 = .ok (.iload_n 2, 1) := by decide +kernel
theorem dX12_hideBy_15 : decode cX12_hideBy 15 = .ok (.iastore, 1) := by decide +kernel
theorem dX12_hideBy_16 : decode cX12_hideBy 16 = .ok (.aload_n 0, 1) := by decide +kernel
theorem dX12_hideBy_17 : decode cX12_hideBy 17 = .ok (.getfield 97, 3) := by decide +kernel
theorem dX12_hideBy_20 : decode cX12_hideBy 20 = .ok (.bipush 8, 2) := by decide +kernel
theorem dX12_hideBy_22 : decode cX12_hideBy 22 = .ok (.iload_n 3, 1) := by decide +kernel
theorem dX12_hideBy_23 : decode cX12_hideBy 23 = .ok (.iastore, 1) := by decide +kernel
theorem dX12_hideBy_24 : decode cX12_hideBy 24 = .ok (.aload_n 0, 1) := by decide +kernel
theorem dX12_hideBy_25 : decode cX12_hideBy 25 = .ok (.iconst 1, 1) := by decide +kernel
theorem dX12_hideBy_26 : decode cX12_hideBy 26 = .ok (.aload_n 0, 1) := by decide +kernel
theorem dX12_hideBy_27 : decode cX12_hideBy 27 = .ok (.getfield 203, 3) := by decide +kernel
theorem dX12_hideBy_30 : decode cX12_hideBy 30 = .ok (.aload_n 0, 1) := by decide +kernel
theorem dX12_hideBy_31 : decode cX12_hideBy 31 = .ok (.getfield 203, 3) := by decide +kernel
theorem dX12_hideBy_34 : decode cX12_hideBy 34 = .ok (.iconst 1, 1) := by decide +kernel
theorem dX12_hideBy_35 : decode cX12_hideBy 35 = .ok (.invokevirtual 301, 3) := by decide +kernel
theorem dX12_hideBy_38 : decode cX12_hideBy 38 = .ok (.ireturn, 1) := by decide +kernel
theorem dX12_downOf_0 : decode cX12_downOf 0 = .ok (.aload_n 0, 1) := by decide +kernel
theorem dX12_downOf_1 : decode cX12_downOf 1 = .ok (.aload_n 0, 1) := by decide +kernel
theorem dX12_downOf_2 : decode cX12_downOf 2 = .ok (.getfield 203, 3) := by decide +kernel
theorem dX12_downOf_5 : decode cX12_downOf 5 = .ok (.invokevirtual 438, 3) := by decide +kernel
theorem dX12_downOf_8 : decode cX12_downOf 8 = .ok (.aload_n 0, 1) := by decide +kernel
theorem dX12_downOf_9 : decode cX12_downOf 9 = .ok (.iload_n 1, 1) := by decide +kernel
theorem dX12_downOf_10 : decode cX12_downOf 10 = .ok (.aload_n 0, 1) := by decide +kernel
theorem dX12_downOf_11 : decode cX12_downOf 11 = .ok (.getfield 203, 3) := by decide +kernel
theorem dX12_downOf_14 : decode cX12_downOf 14 = .ok (.invokevirtual 292, 3) := by decide +kernel
theorem dX12_downOf_17 : decode cX12_downOf 17 = .ok (.aload_n 0, 1) := by decide +kernel
theorem dX12_downOf_18 : decode cX12_downOf 18 = .ok (.iconst 3, 1) := by decide +kernel
theorem dX12_downOf_19 : decode cX12_downOf 19 = .ok (.aload_n 0, 1) := by decide +kernel
theorem dX12_downOf_20 : decode cX12_downOf 20 = .ok (.getfield 203, 3) := by decide +kernel
theorem dX12_downOf_23 : decode cX12_downOf 23 = .ok (.aload_n 0, 1) := by decide +kernel
theorem dX12_downOf_24 : decode cX12_downOf 24 = .ok (.getfield 203, 3) := by decide +kernel
theorem dX12_downOf_27 : decode cX12_downOf 27 = .ok (.iconst 0, 1) := by decide +kernel
theorem dX12_downOf_28 : decode cX12_downOf 28 = .ok (.invokevirtual 301, 3) := by decide +kernel
theorem dX12_downOf_31 : decode cX12_downOf 31 = .ok (.ireturn, 1) := by decide +kernel
theorem dX12_shownTo_0 : decode cX12_shownTo 0 = .ok (.aload_n 0, 1) := by decide +kernel
theorem dX12_shownTo_1 : decode cX12_shownTo 1 = .ok (.iload_n 1, 1) := by decide +kernel
theorem dX12_shownTo_2 : decode cX12_shownTo 2 = .ok (.aload_n 0, 1) := by decide +kernel
theorem dX12_shownTo_3 : decode cX12_shownTo 3 = .ok (.getfield 203, 3) := by decide +kernel
theorem dX12_shownTo_6 : decode cX12_shownTo 6 = .ok (.invokevirtual 288, 3) := by decide +kernel
theorem dX12_shownTo_9 : decode cX12_shownTo 9 = .ok (.aload_n 0, 1) := by decide +kernel
theorem dX12_shownTo_10 : decode cX12_shownTo 10 = .ok (.iload_n 2, 1) := by decide +kernel
theorem dX12_shownTo_11 : decode cX12_shownTo 11 = .ok (.aload_n 0, 1) := by decide +kernel
theorem dX12_shownTo_12 : decode cX12_shownTo 12 = .ok (.getfield 203, 3) := by decide +kernel
theorem dX12_shownTo_15 : decode cX12_shownTo 15 = .ok (.invokevirtual 292, 3) := by decide +kernel
theorem dX12_shownTo_18 : decode cX12_shownTo 18 = .ok (.aload_n 0, 1) := by decide +kernel
theorem dX12_shownTo_19 : decode cX12_shownTo 19 = .ok (.iload_n 1, 1) := by decide +kernel
theorem dX12_shownTo_20 : decode cX12_shownTo 20 = .ok (.iload_n 2, 1) := by decide +kernel
theorem dX12_shownTo_21 : decode cX12_shownTo 21 = .ok (.invokevirtual 295, 3) := by decide +kernel
theorem dX12_shownTo_24 : decode cX12_shownTo 24 = .ok (.aload_n 0, 1) := by decide +kernel
theorem dX12_shownTo_25 : decode cX12_shownTo 25 = .ok (.iconst 4, 1) := by decide +kernel
theorem dX12_shownTo_26 : decode cX12_shownTo 26 = .ok (.aload_n 0, 1) := by decide +kernel
theorem dX12_shownTo_27 : decode cX12_shownTo 27 = .ok (.getfield 203, 3) := by decide +kernel
theorem dX12_shownTo_30 : decode cX12_shownTo 30 = .ok (.aload_n 0, 1) := by decide +kernel
theorem dX12_shownTo_31 : decode cX12_shownTo 31 = .ok (.getfield 203, 3) := by decide +kernel
theorem dX12_shownTo_34 : decode cX12_shownTo 34 = .ok (.iconst 1, 1) := by decide +kernel
theorem dX12_shownTo_35 : decode cX12_shownTo 35 = .ok (.invokevirtual 301, 3) := by decide +kernel
theorem dX12_shownTo_38 : decode cX12_shownTo 38 = .ok (.ireturn, 1) := by decide +kernel
theorem dX12_says_0 : decode cX12_says 0 = .ok (.iload 4, 2) := by decide +kernel
theorem dX12_says_2 : decode cX12_says 2 = .ok (.iconst 0, 1) := by decide +kernel
theorem dX12_says_3 : decode cX12_says 3 = .ok (.iconst 1, 1) := by decide +kernel
theorem dX12_says_4 : decode cX12_says 4 = .ok (.invokestatic 195, 3) := by decide +kernel
theorem dX12_says_7 : decode cX12_says 7 = .ok (.ifCond .eq 23, 3) := by decide +kernel
theorem dX12_says_10 : decode cX12_says 10 = .ok (.iload_n 1, 1) := by decide +kernel
theorem dX12_says_11 : decode cX12_says 11 = .ok (.bipush 10, 2) := by decide +kernel
theorem dX12_says_13 : decode cX12_says 13 = .ok (.if_icmp .eq 17, 3) := by decide +kernel
theorem dX12_says_16 : decode cX12_says 16 = .ok (.iload_n 1, 1) := by decide +kernel
theorem dX12_says_17 : decode cX12_says 17 = .ok (.iconst 0, 1) := by decide +kernel
theorem dX12_says_18 : decode cX12_says 18 = .ok (.iconst 4, 1) := by decide +kernel
theorem dX12_says_19 : decode cX12_says 19 = .ok (.invokestatic 195, 3) := by decide +kernel
theorem dX12_says_22 : decode cX12_says 22 = .ok (.ifCond .eq 8, 3) := by decide +kernel
theorem dX12_says_25 : decode cX12_says 25 = .ok (.iload_n 1, 1) := by decide +kernel
