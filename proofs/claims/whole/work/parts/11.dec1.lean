theorem dX0_init_0 : decode cX0_init 0 = .ok (.aload_n 0, 1) := by decide +kernel
theorem dX0_init_1 : decode cX0_init 1 = .ok (.invokespecial 3, 3) := by decide +kernel
theorem dX0_init_4 : decode cX0_init 4 = .ok (.aload_n 0, 1) := by decide +kernel
theorem dX0_init_5 : decode cX0_init 5 = .ok (.iload_n 1, 1) := by decide +kernel
theorem dX0_init_6 : decode cX0_init 6 = .ok (.putfield 9, 3) := by decide +kernel
theorem dX0_init_9 : decode cX0_init 9 = .ok (.aload_n 0, 1) := by decide +kernel
theorem dX0_init_10 : decode cX0_init 10 = .ok (.iload_n 2, 1) := by decide +kernel
theorem dX0_init_11 : decode cX0_init 11 = .ok (.putfield 15, 3) := by decide +kernel
theorem dX0_init_14 : decode cX0_init 14 = .ok (.return_, 1) := by decide +kernel
theorem dX0_cellNow_0 : decode cX0_cellNow 0 = .ok (.iconst 0, 1) := by decide +kernel
theorem dX0_cellNow_1 : decode cX0_cellNow 1 = .ok (.ireturn, 1) := by decide +kernel
theorem dX0_isUnder_0 : decode cX0_isUnder 0 = .ok (.aload_n 0, 1) := by decide +kernel
theorem dX0_isUnder_1 : decode cX0_isUnder 1 = .ok (.getfield 15, 3) := by decide +kernel
theorem dX0_isUnder_4 : decode cX0_isUnder 4 = .ok (.istore_n 2, 1) := by decide +kernel
theorem dX0_isUnder_5 : decode cX0_isUnder 5 = .ok (.iconst 0, 1) := by decide +kernel
theorem dX0_isUnder_6 : decode cX0_isUnder 6 = .ok (.istore_n 3, 1) := by decide +kernel
theorem dX0_isUnder_7 : decode cX0_isUnder 7 = .ok (.iload_n 3, 1) := by decide +kernel
theorem dX0_isUnder_8 : decode cX0_isUnder 8 = .ok (.bipush 8, 2) := by decide +kernel
theorem dX0_isUnder_10 : decode cX0_isUnder 10 = .ok (.if_icmp .ge 32, 3) := by decide +kernel
theorem dX0_isUnder_13 : decode cX0_isUnder 13 = .ok (.iload_n 2, 1) := by decide +kernel
theorem dX0_isUnder_14 : decode cX0_isUnder 14 = .ok (.ifCond .lt 28, 3) := by decide +kernel
theorem dX0_isUnder_17 : decode cX0_isUnder 17 = .ok (.iload_n 2, 1) := by decide +kernel
theorem dX0_isUnder_18 : decode cX0_isUnder 18 = .ok (.bipush 8, 2) := by decide +kernel
theorem dX0_isUnder_20 : decode cX0_isUnder 20 = .ok (.if_icmp .ge 22, 3) := by decide +kernel
theorem dX0_isUnder_23 : decode cX0_isUnder 23 = .ok (.iload_n 2, 1) := by decide +kernel
theorem dX0_isUnder_24 : decode cX0_isUnder 24 = .ok (.iload_n 1, 1) := by decide +kernel
theorem dX0_isUnder_25 : decode cX0_isUnder 25 = .ok (.if_icmp .ne 5, 3) := by decide +kernel
theorem dX0_isUnder_28 : decode cX0_isUnder 28 = .ok (.iconst 1, 1) := by decide +kernel
theorem dX0_isUnder_29 : decode cX0_isUnder 29 = .ok (.ireturn, 1) := by decide +kernel
theorem dX0_isUnder_30 : decode cX0_isUnder 30 = .ok (.getstatic 18, 3) := by decide +kernel
theorem dX0_isUnder_33 : decode cX0_isUnder 33 = .ok (.iload_n 2, 1) := by decide +kernel
theorem dX0_isUnder_34 : decode cX0_isUnder 34 = .ok (.iaload, 1) := by decide +kernel
theorem dX0_isUnder_35 : decode cX0_isUnder 35 = .ok (.istore_n 2, 1) := by decide +kernel
theorem dX0_isUnder_36 : decode cX0_isUnder 36 = .ok (.iinc 3 1, 3) := by decide +kernel
theorem dX0_isUnder_39 : decode cX0_isUnder 39 = .ok (.goto (-32), 3) := by decide +kernel
theorem dX0_isUnder_42 : decode cX0_isUnder 42 = .ok (.iconst 0, 1) := by decide +kernel
theorem dX0_isUnder_43 : decode cX0_isUnder 43 = .ok (.ireturn, 1) := by decide +kernel
theorem dX0_perform_0 : decode cX0_perform 0 = .ok (.aload_n 0, 1) := by decide +kernel
theorem dX0_perform_1 : decode cX0_perform 1 = .ok (.aload_n 0, 1) := by decide +kernel
theorem dX0_perform_2 : decode cX0_perform 2 = .ok (.getfield 15, 3) := by decide +kernel
theorem dX0_perform_5 : decode cX0_perform 5 = .ok (.iload_n 1, 1) := by decide +kernel
theorem dX0_perform_6 : decode cX0_perform 6 = .ok (.iload_n 2, 1) := by decide +kernel
theorem dX0_perform_7 : decode cX0_perform 7 = .ok (.aload_n 3, 1) := by decide +kernel
theorem dX0_perform_8 : decode cX0_perform 8 = .ok (.iconst 0, 1) := by decide +kernel
theorem dX0_perform_9 : decode cX0_perform 9 = .ok (.invokevirtual 22, 3) := by decide +kernel
theorem dX0_perform_12 : decode cX0_perform 12 = .ok (.ireturn, 1) := by decide +kernel
theorem dX0_run_0 : decode cX0_run 0 = .ok (.iload_n 1, 1) := by decide +kernel
theorem dX0_run_1 : decode cX0_run 1 = .ok (.istore 6, 2) := by decide +kernel
theorem dX0_run_3 : decode cX0_run 3 = .ok (.iconst 0, 1) := by decide +kernel
theorem dX0_run_4 : decode cX0_run 4 = .ok (.istore 7, 2) := by decide +kernel
theorem dX0_run_6 : decode cX0_run 6 = .ok (.iload 7, 2) := by decide +kernel
theorem dX0_run_8 : decode cX0_run 8 = .ok (.bipush 8, 2) := by decide +kernel
theorem dX0_run_10 : decode cX0_run 10 = .ok (.if_icmp .ge 35, 3) := by decide +kernel
theorem dX0_run_13 : decode cX0_run 13 = .ok (.iload 6, 2) := by decide +kernel
theorem dX0_run_15 : decode cX0_run 15 = .ok (.ifCond .le 30, 3) := by decide +kernel
theorem dX0_run_18 : decode cX0_run 18 = .ok (.getstatic 26, 3) := by decide +kernel
theorem dX0_run_21 : decode cX0_run 21 = .ok (.iconst 4, 1) := by decide +kernel
theorem dX0_run_22 : decode cX0_run 22 = .ok (.iload 6, 2) := by decide +kernel
theorem dX0_run_24 : decode cX0_run 24 = .ok (.imul, 1) := by decide +kernel
theorem dX0_run_25 : decode cX0_run 25 = .ok (.iload_n 2, 1) := by decide +kernel
theorem dX0_run_26 : decode cX0_run 26 = .ok (.iadd, 1) := by decide +kernel
theorem dX0_run_27 : decode cX0_run 27 = .ok (.iaload, 1) := by decide +kernel
theorem dX0_run_28 : decode cX0_run 28 = .ok (.ifCond .ne 17, 3) := by decide +kernel
theorem dX0_run_31 : decode cX0_run 31 = .ok (.getstatic 18, 3) := by decide +kernel
theorem dX0_run_34 : decode cX0_run 34 = .ok (.iload 6, 2) := by decide +kernel
theorem dX0_run_36 : decode cX0_run 36 = .ok (.iaload, 1) := by decide +kernel
theorem dX0_run_37 : decode cX0_run 37 = .ok (.istore 6, 2) := by decide +kernel
theorem dX0_run_39 : decode cX0_run 39 = .ok (.iinc 7 1, 3) := by decide +kernel
theorem dX0_run_42 : decode cX0_run 42 = .ok (.goto (-36), 3) := by decide +kernel
theorem dX0_run_45 : decode cX0_run 45 = .ok (.iload 6, 2) := by decide +kernel
theorem dX0_run_47 : decode cX0_run 47 = .ok (.ifCond .lt 10, 3) := by decide +kernel
theorem dX0_run_50 : decode cX0_run 50 = .ok (.iload 5, 2) := by decide +kernel
theorem dX0_run_52 : decode cX0_run 52 = .ok (.bipush 40, 2) := by decide +kernel
theorem dX0_run_54 : decode cX0_run 54 = .ok (.if_icmp .le 5, 3) := by decide +kernel
theorem dX0_run_57 : decode cX0_run 57 = .ok (.iconst 0, 1) := by decide +kernel
theorem dX0_run_58 : decode cX0_run 58 = .ok (.ireturn, 1) := by decide +kernel
theorem dX0_run_59 : decode cX0_run 59 = .ok (.getstatic 26, 3) := by decide +kernel
theorem dX0_run_62 : decode cX0_run 62 = .ok (.iconst 4, 1) := by decide +kernel
theorem dX0_run_63 : decode cX0_run 63 = .ok (.iload 6, 2) := by decide +kernel
theorem dX0_run_65 : decode cX0_run 65 = .ok (.imul, 1) := by decide +kernel
theorem dX0_run_66 : decode cX0_run 66 = .ok (.iload_n 2, 1) := by decide +kernel
theorem dX0_run_67 : decode cX0_run 67 = .ok (.iadd, 1) := by decide +kernel
theorem dX0_run_68 : decode cX0_run 68 = .ok (.iaload, 1) := by decide +kernel
theorem dX0_run_69 : decode cX0_run 69 = .ok (.istore 7, 2) := by decide +kernel
theorem dX0_run_71 : decode cX0_run 71 = .ok (.aload 4, 2) := by decide +kernel
theorem dX0_run_73 : decode cX0_run 73 = .ok (.bipush 24, 2) := by decide +kernel
theorem dX0_run_75 : decode cX0_run 75 = .ok (.iaload, 1) := by decide +kernel
theorem dX0_run_76 : decode cX0_run 76 = .ok (.bipush 24, 2) := by decide +kernel
theorem dX0_run_78 : decode cX0_run 78 = .ok (.if_icmp .ge 13, 3) := by decide +kernel
theorem dX0_run_81 : decode cX0_run 81 = .ok (.aload 4, 2) := by decide +kernel
theorem dX0_run_83 : decode cX0_run 83 = .ok (.aload 4, 2) := by decide +kernel
theorem dX0_run_85 : decode cX0_run 85 = .ok (.bipush 24, 2) := by decide +kernel
theorem dX0_run_87 : decode cX0_run 87 = .ok (.iaload, 1) := by decide +kernel
theorem dX0_run_88 : decode cX0_run 88 = .ok (.iload 7, 2) := by decide +kernel
theorem dX0_run_90 : decode cX0_run 90 = .ok (.iastore, 1) := by decide +kernel
theorem dX0_run_91 : decode cX0_run 91 = .ok (.aload 4, 2) := by decide +kernel
theorem dX0_run_93 : decode cX0_run 93 = .ok (.bipush 24, 2) := by decide +kernel
theorem dX0_run_95 : decode cX0_run 95 = .ok (.dup2, 1) := by decide +kernel
theorem dX0_run_96 : decode cX0_run 96 = .ok (.iaload, 1) := by decide +kernel
theorem dX0_run_97 : decode cX0_run 97 = .ok (.iconst 1, 1) := by decide +kernel
theorem dX0_run_98 : decode cX0_run 98 = .ok (.iadd, 1) := by decide +kernel
theorem dX0_run_99 : decode cX0_run 99 = .ok (.iastore, 1) := by decide +kernel
theorem dX0_run_100 : decode cX0_run 100 = .ok (.aload_n 0, 1) := by decide +kernel
theorem dX0_run_101 : decode cX0_run 101 = .ok (.iload 7, 2) := by decide +kernel
theorem dX0_run_103 : decode cX0_run 103 = .ok (.getstatic 18, 3) := by decide +kernel
theorem dX0_run_106 : decode cX0_run 106 = .ok (.iload 6, 2) := by decide +kernel
theorem dX0_run_108 : decode cX0_run 108 = .ok (.iaload, 1) := by decide +kernel
theorem dX0_run_109 : decode cX0_run 109 = .ok (.iload_n 3, 1) := by decide +kernel
theorem dX0_run_110 : decode cX0_run 110 = .ok (.aload 4, 2) := by decide +kernel
theorem dX0_run_112 : decode cX0_run 112 = .ok (.iload 5, 2) := by decide +kernel
theorem dX0_run_114 : decode cX0_run 114 = .ok (.iconst 1, 1) := by decide +kernel
theorem dX0_run_115 : decode cX0_run 115 = .ok (.iadd, 1) := by decide +kernel
theorem dX0_run_116 : decode cX0_run 116 = .ok (.invokevirtual 29, 3) := by decide +kernel
theorem dX0_run_119 : decode cX0_run 119 = .ok (.ireturn, 1) := by decide +kernel
theorem dX0_runBody_0 : decode cX0_runBody 0 = .ok (.iload_n 1, 1) := by decide +kernel
theorem dX0_runBody_1 : decode cX0_runBody 1 = .ok (.lookupswitch 327 #[(1, 115), (2, 122), (10, 152), (11, 169), (20, 176), (30, 193), (40, 220), (50, 234), (51, 248), (60, 262), (61, 275), (70, 289), (80, 303)], 115) := by decide +kernel
theorem dX0_runBody_116 : decode cX0_runBody 116 = .ok (.iload_n 3, 1) := by decide +kernel
theorem dX0_runBody_117 : decode cX0_runBody 117 = .ok (.aload_n 0, 1) := by decide +kernel
theorem dX0_runBody_118 : decode cX0_runBody 118 = .ok (.getfield 9, 3) := by decide +kernel
theorem dX0_runBody_121 : decode cX0_runBody 121 = .ok (.iadd, 1) := by decide +kernel
theorem dX0_runBody_122 : decode cX0_runBody 122 = .ok (.ireturn, 1) := by decide +kernel
theorem dX0_runBody_123 : decode cX0_runBody 123 = .ok (.aload_n 0, 1) := by decide +kernel
theorem dX0_runBody_124 : decode cX0_runBody 124 = .ok (.aload_n 0, 1) := by decide +kernel
theorem dX0_runBody_125 : decode cX0_runBody 125 = .ok (.getfield 15, 3) := by decide +kernel
theorem dX0_runBody_128 : decode cX0_runBody 128 = .ok (.iconst 1, 1) := by decide +kernel
theorem dX0_runBody_129 : decode cX0_runBody 129 = .ok (.iload_n 3, 1) := by decide +kernel
theorem dX0_runBody_130 : decode cX0_runBody 130 = .ok (.aload 4, 2) := by decide +kernel
theorem dX0_runBody_132 : decode cX0_runBody 132 = .ok (.iload 5, 2) := by decide +kernel
theorem dX0_runBody_134 : decode cX0_runBody 134 = .ok (.invokevirtual 22, 3) := by decide +kernel
theorem dX0_runBody_137 : decode cX0_runBody 137 = .ok (.aload_n 0, 1) := by decide +kernel
theorem dX0_runBody_138 : decode cX0_runBody 138 = .ok (.aload_n 0, 1) := by decide +kernel
theorem dX0_runBody_139 : decode cX0_runBody 139 = .ok (.getfield 15, 3) := by decide +kernel
theorem dX0_runBody_142 : decode cX0_runBody 142 = .ok (.iconst 2, 1) := by decide +kernel
theorem dX0_runBody_143 : decode cX0_runBody 143 = .ok (.iconst 1, 1) := by decide +kernel
theorem dX0_runBody_144 : decode cX0_runBody 144 = .ok (.aload 4, 2) := by decide +kernel
theorem dX0_runBody_146 : decode cX0_runBody 146 = .ok (.iload 5, 2) := by decide +kernel
theorem dX0_runBody_148 : decode cX0_runBody 148 = .ok (.invokevirtual 22, 3) := by decide +kernel
theorem dX0_runBody_151 : decode cX0_runBody 151 = .ok (.isub, 1) := by decide +kernel
theorem dX0_runBody_152 : decode cX0_runBody 152 = .ok (.ireturn, 1) := by decide +kernel
theorem dX0_runBody_153 : decode cX0_runBody 153 = .ok (.aload_n 0, 1) := by decide +kernel
theorem dX0_runBody_154 : decode cX0_runBody 154 = .ok (.aload_n 0, 1) := by decide +kernel
theorem dX0_runBody_155 : decode cX0_runBody 155 = .ok (.getfield 15, 3) := by decide +kernel
theorem dX0_runBody_158 : decode cX0_runBody 158 = .ok (.iconst 0, 1) := by decide +kernel
theorem dX0_runBody_159 : decode cX0_runBody 159 = .ok (.iload_n 3, 1) := by decide +kernel
theorem dX0_runBody_160 : decode cX0_runBody 160 = .ok (.aload 4, 2) := by decide +kernel
theorem dX0_runBody_162 : decode cX0_runBody 162 = .ok (.iload 5, 2) := by decide +kernel
theorem dX0_runBody_164 : decode cX0_runBody 164 = .ok (.invokevirtual 22, 3) := by decide +kernel
theorem dX0_runBody_167 : decode cX0_runBody 167 = .ok (.iconst 2, 1) := by decide +kernel
theorem dX0_runBody_168 : decode cX0_runBody 168 = .ok (.imul, 1) := by decide +kernel
theorem dX0_runBody_169 : decode cX0_runBody 169 = .ok (.ireturn, 1) := by decide +kernel
theorem dX0_runBody_170 : decode cX0_runBody 170 = .ok (.iload_n 3, 1) := by decide +kernel
theorem dX0_runBody_171 : decode cX0_runBody 171 = .ok (.aload_n 0, 1) := by decide +kernel
theorem dX0_runBody_172 : decode cX0_runBody 172 = .ok (.getfield 9, 3) := by decide +kernel
theorem dX0_runBody_175 : decode cX0_runBody 175 = .ok (.ixor, 1) := by decide +kernel
theorem dX0_runBody_176 : decode cX0_runBody 176 = .ok (.ireturn, 1) := by decide +kernel
theorem dX0_runBody_177 : decode cX0_runBody 177 = .ok (.aload_n 0, 1) := by decide +kernel
theorem dX0_runBody_178 : decode cX0_runBody 178 = .ok (.iload_n 2, 1) := by decide +kernel
theorem dX0_runBody_179 : decode cX0_runBody 179 = .ok (.iconst 0, 1) := by decide +kernel
theorem dX0_runBody_180 : decode cX0_runBody 180 = .ok (.iload_n 3, 1) := by decide +kernel
theorem dX0_runBody_181 : decode cX0_runBody 181 = .ok (.aload 4, 2) := by decide +kernel
theorem dX0_runBody_183 : decode cX0_runBody 183 = .ok (.iload 5, 2) := by decide +kernel
theorem dX0_runBody_185 : decode cX0_runBody 185 = .ok (.invokevirtual 22, 3) := by decide +kernel
theorem dX0_runBody_188 : decode cX0_runBody 188 = .ok (.aload_n 0, 1) := by decide +kernel
theorem dX0_runBody_189 : decode cX0_runBody 189 = .ok (.invokevirtual 32, 3) := by decide +kernel
theorem dX0_runBody_192 : decode cX0_runBody 192 = .ok (.isub, 1) := by decide +kernel
theorem dX0_runBody_193 : decode cX0_runBody 193 = .ok (.ireturn, 1) := by decide +kernel
theorem dX0_runBody_194 : decode cX0_runBody 194 = .ok (.aload_n 0, 1) := by decide +kernel
theorem dX0_runBody_195 : decode cX0_runBody 195 = .ok (.iload_n 2, 1) := by decide +kernel
theorem dX0_runBody_196 : decode cX0_runBody 196 = .ok (.iconst 1, 1) := by decide +kernel
theorem dX0_runBody_197 : decode cX0_runBody 197 = .ok (.iload_n 3, 1) := by decide +kernel
theorem dX0_runBody_198 : decode cX0_runBody 198 = .ok (.aload 4, 2) := by decide +kernel
theorem dX0_runBody_200 : decode cX0_runBody 200 = .ok (.iload 5, 2) := by decide +kernel
theorem dX0_runBody_202 : decode cX0_runBody 202 = .ok (.invokevirtual 22, 3) := by decide +kernel
theorem dX0_runBody_205 : decode cX0_runBody 205 = .ok (.aload_n 0, 1) := by decide +kernel
theorem dX0_runBody_206 : decode cX0_runBody 206 = .ok (.aload_n 0, 1) := by decide +kernel
theorem dX0_runBody_207 : decode cX0_runBody 207 = .ok (.getfield 15, 3) := by decide +kernel
theorem dX0_runBody_210 : decode cX0_runBody 210 = .ok (.iconst 2, 1) := by decide +kernel
theorem dX0_runBody_211 : decode cX0_runBody 211 = .ok (.iconst 2, 1) := by decide +kernel
theorem dX0_runBody_212 : decode cX0_runBody 212 = .ok (.aload 4, 2) := by decide +kernel
theorem dX0_runBody_214 : decode cX0_runBody 214 = .ok (.iload 5, 2) := by decide +kernel
theorem dX0_runBody_216 : decode cX0_runBody 216 = .ok (.invokevirtual 22, 3) := by decide +kernel
theorem dX0_runBody_219 : decode cX0_runBody 219 = .ok (.iadd, 1) := by decide +kernel
theorem dX0_runBody_220 : decode cX0_runBody 220 = .ok (.ireturn, 1) := by decide +kernel
theorem dX0_runBody_221 : decode cX0_runBody 221 = .ok (.aload_n 0, 1) := by decide +kernel
theorem dX0_runBody_222 : decode cX0_runBody 222 = .ok (.iload_n 2, 1) := by decide +kernel
theorem dX0_runBody_223 : decode cX0_runBody 223 = .ok (.iconst 2, 1) := by decide +kernel
theorem dX0_runBody_224 : decode cX0_runBody 224 = .ok (.iload_n 3, 1) := by decide +kernel
theorem dX0_runBody_225 : decode cX0_runBody 225 = .ok (.aload 4, 2) := by decide +kernel
theorem dX0_runBody_227 : decode cX0_runBody 227 = .ok (.iload 5, 2) := by decide +kernel
theorem dX0_runBody_229 : decode cX0_runBody 229 = .ok (.invokevirtual 22, 3) := by decide +kernel
theorem dX0_runBody_232 : decode cX0_runBody 232 = .ok (.iconst 3, 1) := by decide +kernel
theorem dX0_runBody_233 : decode cX0_runBody 233 = .ok (.imul, 1) := by decide +kernel
theorem dX0_runBody_234 : decode cX0_runBody 234 = .ok (.ireturn, 1) := by decide +kernel
theorem dX0_runBody_235 : decode cX0_runBody 235 = .ok (.aload_n 0, 1) := by decide +kernel
theorem dX0_runBody_236 : decode cX0_runBody 236 = .ok (.iload_n 2, 1) := by decide +kernel
theorem dX0_runBody_237 : decode cX0_runBody 237 = .ok (.iconst 0, 1) := by decide +kernel
theorem dX0_runBody_238 : decode cX0_runBody 238 = .ok (.iload_n 3, 1) := by decide +kernel
theorem dX0_runBody_239 : decode cX0_runBody 239 = .ok (.aload 4, 2) := by decide +kernel
theorem dX0_runBody_241 : decode cX0_runBody 241 = .ok (.iload 5, 2) := by decide +kernel
theorem dX0_runBody_243 : decode cX0_runBody 243 = .ok (.invokevirtual 22, 3) := by decide +kernel
theorem dX0_runBody_246 : decode cX0_runBody 246 = .ok (.iconst 5, 1) := by decide +kernel
theorem dX0_runBody_247 : decode cX0_runBody 247 = .ok (.ixor, 1) := by decide +kernel
theorem dX0_runBody_248 : decode cX0_runBody 248 = .ok (.ireturn, 1) := by decide +kernel
theorem dX0_runBody_249 : decode cX0_runBody 249 = .ok (.aload_n 0, 1) := by decide +kernel
theorem dX0_runBody_250 : decode cX0_runBody 250 = .ok (.iload_n 2, 1) := by decide +kernel
theorem dX0_runBody_251 : decode cX0_runBody 251 = .ok (.iconst 3, 1) := by decide +kernel
theorem dX0_runBody_252 : decode cX0_runBody 252 = .ok (.iload_n 3, 1) := by decide +kernel
theorem dX0_runBody_253 : decode cX0_runBody 253 = .ok (.iconst 1, 1) := by decide +kernel
theorem dX0_runBody_254 : decode cX0_runBody 254 = .ok (.iadd, 1) := by decide +kernel
theorem dX0_runBody_255 : decode cX0_runBody 255 = .ok (.aload 4, 2) := by decide +kernel
theorem dX0_runBody_257 : decode cX0_runBody 257 = .ok (.iload 5, 2) := by decide +kernel
theorem dX0_runBody_259 : decode cX0_runBody 259 = .ok (.invokevirtual 22, 3) := by decide +kernel
theorem dX0_runBody_262 : decode cX0_runBody 262 = .ok (.ireturn, 1) := by decide +kernel
theorem dX0_runBody_263 : decode cX0_runBody 263 = .ok (.aload_n 0, 1) := by decide +kernel
theorem dX0_runBody_264 : decode cX0_runBody 264 = .ok (.iload_n 2, 1) := by decide +kernel
theorem dX0_runBody_265 : decode cX0_runBody 265 = .ok (.iconst 2, 1) := by decide +kernel
theorem dX0_runBody_266 : decode cX0_runBody 266 = .ok (.iload_n 3, 1) := by decide +kernel
theorem dX0_runBody_267 : decode cX0_runBody 267 = .ok (.aload 4, 2) := by decide +kernel
theorem dX0_runBody_269 : decode cX0_runBody 269 = .ok (.iload 5, 2) := by decide +kernel
theorem dX0_runBody_271 : decode cX0_runBody 271 = .ok (.invokevirtual 22, 3) := by decide +kernel
theorem dX0_runBody_274 : decode cX0_runBody 274 = .ok (.ineg, 1) := by decide +kernel
theorem dX0_runBody_275 : decode cX0_runBody 275 = .ok (.ireturn, 1) := by decide +kernel
theorem dX0_runBody_276 : decode cX0_runBody 276 = .ok (.aload_n 0, 1) := by decide +kernel
theorem dX0_runBody_277 : decode cX0_runBody 277 = .ok (.iload_n 2, 1) := by decide +kernel
theorem dX0_runBody_278 : decode cX0_runBody 278 = .ok (.iconst 1, 1) := by decide +kernel
theorem dX0_runBody_279 : decode cX0_runBody 279 = .ok (.iload_n 3, 1) := by decide +kernel
theorem dX0_runBody_280 : decode cX0_runBody 280 = .ok (.aload 4, 2) := by decide +kernel
theorem dX0_runBody_282 : decode cX0_runBody 282 = .ok (.iload 5, 2) := by decide +kernel
theorem dX0_runBody_284 : decode cX0_runBody 284 = .ok (.invokevirtual 22, 3) := by decide +kernel
theorem dX0_runBody_287 : decode cX0_runBody 287 = .ok (.iconst 1, 1) := by decide +kernel
theorem dX0_runBody_288 : decode cX0_runBody 288 = .ok (.isub, 1) := by decide +kernel
theorem dX0_runBody_289 : decode cX0_runBody 289 = .ok (.ireturn, 1) := by decide +kernel
theorem dX0_runBody_290 : decode cX0_runBody 290 = .ok (.aload_n 0, 1) := by decide +kernel
theorem dX0_runBody_291 : decode cX0_runBody 291 = .ok (.iload_n 2, 1) := by decide +kernel
theorem dX0_runBody_292 : decode cX0_runBody 292 = .ok (.iconst 3, 1) := by decide +kernel
theorem dX0_runBody_293 : decode cX0_runBody 293 = .ok (.iload_n 3, 1) := by decide +kernel
theorem dX0_runBody_294 : decode cX0_runBody 294 = .ok (.aload 4, 2) := by decide +kernel
theorem dX0_runBody_296 : decode cX0_runBody 296 = .ok (.iload 5, 2) := by decide +kernel
theorem dX0_runBody_298 : decode cX0_runBody 298 = .ok (.invokevirtual 22, 3) := by decide +kernel
theorem dX0_runBody_301 : decode cX0_runBody 301 = .ok (.iconst 2, 1) := by decide +kernel
theorem dX0_runBody_302 : decode cX0_runBody 302 = .ok (.imul, 1) := by decide +kernel
theorem dX0_runBody_303 : decode cX0_runBody 303 = .ok (.ireturn, 1) := by decide +kernel
theorem dX0_runBody_304 : decode cX0_runBody 304 = .ok (.aload_n 0, 1) := by decide +kernel
theorem dX0_runBody_305 : decode cX0_runBody 305 = .ok (.iload_n 2, 1) := by decide +kernel
theorem dX0_runBody_306 : decode cX0_runBody 306 = .ok (.iconst 1, 1) := by decide +kernel
theorem dX0_runBody_307 : decode cX0_runBody 307 = .ok (.iload_n 3, 1) := by decide +kernel
theorem dX0_runBody_308 : decode cX0_runBody 308 = .ok (.aload 4, 2) := by decide +kernel
theorem dX0_runBody_310 : decode cX0_runBody 310 = .ok (.iload 5, 2) := by decide +kernel
theorem dX0_runBody_312 : decode cX0_runBody 312 = .ok (.invokevirtual 22, 3) := by decide +kernel
theorem dX0_runBody_315 : decode cX0_runBody 315 = .ok (.aload_n 0, 1) := by decide +kernel
theorem dX0_runBody_316 : decode cX0_runBody 316 = .ok (.iload_n 2, 1) := by decide +kernel
theorem dX0_runBody_317 : decode cX0_runBody 317 = .ok (.iconst 2, 1) := by decide +kernel
theorem dX0_runBody_318 : decode cX0_runBody 318 = .ok (.iload_n 3, 1) := by decide +kernel
theorem dX0_runBody_319 : decode cX0_runBody 319 = .ok (.aload 4, 2) := by decide +kernel
theorem dX0_runBody_321 : decode cX0_runBody 321 = .ok (.iload 5, 2) := by decide +kernel
theorem dX0_runBody_323 : decode cX0_runBody 323 = .ok (.invokevirtual 22, 3) := by decide +kernel
theorem dX0_runBody_326 : decode cX0_runBody 326 = .ok (.iadd, 1) := by decide +kernel
theorem dX0_runBody_327 : decode cX0_runBody 327 = .ok (.ireturn, 1) := by decide +kernel
theorem dX0_runBody_328 : decode cX0_runBody 328 = .ok (.iconst 0, 1) := by decide +kernel
theorem dX0_runBody_329 : decode cX0_runBody 329 = .ok (.ireturn, 1) := by decide +kernel
theorem dX1_init_0 : decode cX1_init 0 = .ok (.aload_n 0, 1) := by decide +kernel
theorem dX1_init_1 : decode cX1_init 1 = .ok (.iload_n 1, 1) := by decide +kernel
theorem dX1_init_2 : decode cX1_init 2 = .ok (.iload_n 2, 1) := by decide +kernel
theorem dX1_init_3 : decode cX1_init 3 = .ok (.invokespecial 3, 3) := by decide +kernel
theorem dX1_init_6 : decode cX1_init 6 = .ok (.aload_n 0, 1) := by decide +kernel
theorem dX1_init_7 : decode cX1_init 7 = .ok (.iconst 4, 1) := by decide +kernel
theorem dX1_init_8 : decode cX1_init 8 = .ok (.newarray .int, 2) := by decide +kernel
theorem dX1_init_10 : decode cX1_init 10 = .ok (.putfield 9, 3) := by decide +kernel
theorem dX1_init_13 : decode cX1_init 13 = .ok (.aload_n 0, 1) := by decide +kernel
theorem dX1_init_14 : decode cX1_init 14 = .ok (.bipush 40, 2) := by decide +kernel
theorem dX1_init_16 : decode cX1_init 16 = .ok (.newarray .int, 2) := by decide +kernel
theorem dX1_init_18 : decode cX1_init 18 = .ok (.putfield 15, 3) := by decide +kernel
theorem dX1_init_21 : decode cX1_init 21 = .ok (.aload_n 0, 1) := by decide +kernel
theorem dX1_init_22 : decode cX1_init 22 = .ok (.bipush 8, 2) := by decide +kernel
theorem dX1_init_24 : decode cX1_init 24 = .ok (.newarray .int, 2) := by decide +kernel
theorem dX1_init_26 : decode cX1_init 26 = .ok (.putfield 18, 3) := by decide +kernel
theorem dX1_init_29 : decode cX1_init 29 = .ok (.aload_n 0, 1) := by decide +kernel
theorem dX1_init_30 : decode cX1_init 30 = .ok (.iconst (-1), 1) := by decide +kernel
theorem dX1_init_31 : decode cX1_init 31 = .ok (.putfield 21, 3) := by decide +kernel
theorem dX1_init_34 : decode cX1_init 34 = .ok (.aload_n 0, 1) := by decide +kernel
theorem dX1_init_35 : decode cX1_init 35 = .ok (.iconst (-1), 1) := by decide +kernel
theorem dX1_init_36 : decode cX1_init 36 = .ok (.putfield 25, 3) := by decide +kernel
theorem dX1_init_39 : decode cX1_init 39 = .ok (.aload_n 0, 1) := by decide +kernel
theorem dX1_init_40 : decode cX1_init 40 = .ok (.iconst (-1), 1) := by decide +kernel
theorem dX1_init_41 : decode cX1_init 41 = .ok (.putfield 28, 3) := by decide +kernel
theorem dX1_init_44 : decode cX1_init 44 = .ok (.aload_n 0, 1) := by decide +kernel
theorem dX1_init_45 : decode cX1_init 45 = .ok (.iload_n 3, 1) := by decide +kernel
theorem dX1_init_46 : decode cX1_init 46 = .ok (.putfield 31, 3) := by decide +kernel
theorem dX1_init_49 : decode cX1_init 49 = .ok (.aload_n 0, 1) := by decide +kernel
theorem dX1_init_50 : decode cX1_init 50 = .ok (.iload 4, 2) := by decide +kernel
theorem dX1_init_52 : decode cX1_init 52 = .ok (.putfield 34, 3) := by decide +kernel
theorem dX1_init_55 : decode cX1_init 55 = .ok (.aload_n 0, 1) := by decide +kernel
theorem dX1_init_56 : decode cX1_init 56 = .ok (.iload 4, 2) := by decide +kernel
theorem dX1_init_58 : decode cX1_init 58 = .ok (.putfield 37, 3) := by decide +kernel
theorem dX1_init_61 : decode cX1_init 61 = .ok (.aload_n 0, 1) := by decide +kernel
theorem dX1_init_62 : decode cX1_init 62 = .ok (.iload 5, 2) := by decide +kernel
theorem dX1_init_64 : decode cX1_init 64 = .ok (.putfield 40, 3) := by decide +kernel
theorem dX1_init_67 : decode cX1_init 67 = .ok (.aload_n 0, 1) := by decide +kernel
theorem dX1_init_68 : decode cX1_init 68 = .ok (.iload_n 2, 1) := by decide +kernel
theorem dX1_init_69 : decode cX1_init 69 = .ok (.iconst 2, 1) := by decide +kernel
theorem dX1_init_70 : decode cX1_init 70 = .ok (.if_icmp .eq 8, 3) := by decide +kernel
theorem dX1_init_73 : decode cX1_init 73 = .ok (.iload_n 2, 1) := by decide +kernel
theorem dX1_init_74 : decode cX1_init 74 = .ok (.iconst 5, 1) := by decide +kernel
theorem dX1_init_75 : decode cX1_init 75 = .ok (.if_icmp .ne 13, 3) := by decide +kernel
theorem dX1_init_78 : decode cX1_init 78 = .ok (.new 43, 3) := by decide +kernel
theorem dX1_init_81 : decode cX1_init 81 = .ok (.dup, 1) := by decide +kernel
theorem dX1_init_82 : decode cX1_init 82 = .ok (.invokespecial 45, 3) := by decide +kernel
theorem dX1_init_85 : decode cX1_init 85 = .ok (.goto 4, 3) := by decide +kernel
theorem dX1_init_88 : decode cX1_init 88 = .ok (.aconst_null, 1) := by decide +kernel
theorem dX1_init_89 : decode cX1_init 89 = .ok (.putfield 48, 3) := by decide +kernel
theorem dX1_init_92 : decode cX1_init 92 = .ok (.return_, 1) := by decide +kernel
theorem dX1_takeSteps_0 : decode cX1_takeSteps 0 = .ok (.iconst 0, 1) := by decide +kernel
theorem dX1_takeSteps_1 : decode cX1_takeSteps 1 = .ok (.istore_n 3, 1) := by decide +kernel
theorem dX1_takeSteps_2 : decode cX1_takeSteps 2 = .ok (.iload_n 3, 1) := by decide +kernel
theorem dX1_takeSteps_3 : decode cX1_takeSteps 3 = .ok (.iload_n 2, 1) := by decide +kernel
theorem dX1_takeSteps_4 : decode cX1_takeSteps 4 = .ok (.if_icmp .ge 36, 3) := by decide +kernel
theorem dX1_takeSteps_7 : decode cX1_takeSteps 7 = .ok (.iload_n 3, 1) := by decide +kernel
theorem dX1_takeSteps_8 : decode cX1_takeSteps 8 = .ok (.iconst 4, 1) := by decide +kernel
theorem dX1_takeSteps_9 : decode cX1_takeSteps 9 = .ok (.if_icmp .ge 31, 3) := by decide +kernel
theorem dX1_takeSteps_12 : decode cX1_takeSteps 12 = .ok (.iload_n 3, 1) := by decide +kernel
theorem dX1_takeSteps_13 : decode cX1_takeSteps 13 = .ok (.aload_n 1, 1) := by decide +kernel
theorem dX1_takeSteps_14 : decode cX1_takeSteps 14 = .ok (.arraylength, 1) := by decide +kernel
theorem dX1_takeSteps_15 : decode cX1_takeSteps 15 = .ok (.if_icmp .ge 25, 3) := by decide +kernel
theorem dX1_takeSteps_18 : decode cX1_takeSteps 18 = .ok (.aload_n 0, 1) := by decide +kernel
theorem dX1_takeSteps_19 : decode cX1_takeSteps 19 = .ok (.getfield 9, 3) := by decide +kernel
theorem dX1_takeSteps_22 : decode cX1_takeSteps 22 = .ok (.iload_n 3, 1) := by decide +kernel
theorem dX1_takeSteps_23 : decode cX1_takeSteps 23 = .ok (.aload_n 1, 1) := by decide +kernel
theorem dX1_takeSteps_24 : decode cX1_takeSteps 24 = .ok (.iload_n 3, 1) := by decide +kernel
theorem dX1_takeSteps_25 : decode cX1_takeSteps 25 = .ok (.iaload, 1) := by decide +kernel
theorem dX1_takeSteps_26 : decode cX1_takeSteps 26 = .ok (.iastore, 1) := by decide +kernel
theorem dX1_takeSteps_27 : decode cX1_takeSteps 27 = .ok (.aload_n 0, 1) := by decide +kernel
theorem dX1_takeSteps_28 : decode cX1_takeSteps 28 = .ok (.iload_n 3, 1) := by decide +kernel
theorem dX1_takeSteps_29 : decode cX1_takeSteps 29 = .ok (.iconst 1, 1) := by decide +kernel
theorem dX1_takeSteps_30 : decode cX1_takeSteps 30 = .ok (.iadd, 1) := by decide +kernel
theorem dX1_takeSteps_31 : decode cX1_takeSteps 31 = .ok (.putfield 52, 3) := by decide +kernel
theorem dX1_takeSteps_34 : decode cX1_takeSteps 34 = .ok (.iinc 3 1, 3) := by decide +kernel
theorem dX1_takeSteps_37 : decode cX1_takeSteps 37 = .ok (.goto (-35), 3) := by decide +kernel
theorem dX1_takeSteps_40 : decode cX1_takeSteps 40 = .ok (.return_, 1) := by decide +kernel
theorem dX1_cellNow_0 : decode cX1_cellNow 0 = .ok (.aload_n 0, 1) := by decide +kernel
theorem dX1_cellNow_1 : decode cX1_cellNow 1 = .ok (.getfield 34, 3) := by decide +kernel
theorem dX1_cellNow_4 : decode cX1_cellNow 4 = .ok (.ireturn, 1) := by decide +kernel
theorem dX1_liesNow_0 : decode cX1_liesNow 0 = .ok (.aload_n 0, 1) := by decide +kernel
theorem dX1_liesNow_1 : decode cX1_liesNow 1 = .ok (.getfield 52, 3) := by decide +kernel
theorem dX1_liesNow_4 : decode cX1_liesNow 4 = .ok (.ifCond .le 17, 3) := by decide +kernel
theorem dX1_liesNow_7 : decode cX1_liesNow 7 = .ok (.aload_n 0, 1) := by decide +kernel
theorem dX1_liesNow_8 : decode cX1_liesNow 8 = .ok (.getfield 9, 3) := by decide +kernel
theorem dX1_liesNow_11 : decode cX1_liesNow 11 = .ok (.aload_n 0, 1) := by decide +kernel
theorem dX1_liesNow_12 : decode cX1_liesNow 12 = .ok (.getfield 52, 3) := by decide +kernel
theorem dX1_liesNow_15 : decode cX1_liesNow 15 = .ok (.iconst 1, 1) := by decide +kernel
theorem dX1_liesNow_16 : decode cX1_liesNow 16 = .ok (.isub, 1) := by decide +kernel
theorem dX1_liesNow_17 : decode cX1_liesNow 17 = .ok (.iaload, 1) := by decide +kernel
theorem dX1_liesNow_18 : decode cX1_liesNow 18 = .ok (.goto 7, 3) := by decide +kernel
theorem dX1_liesNow_21 : decode cX1_liesNow 21 = .ok (.aload_n 0, 1) := by decide +kernel
theorem dX1_liesNow_22 : decode cX1_liesNow 22 = .ok (.getfield 34, 3) := by decide +kernel
theorem dX1_liesNow_25 : decode cX1_liesNow 25 = .ok (.ireturn, 1) := by decide +kernel
theorem dX1_isDown_0 : decode cX1_isDown 0 = .ok (.aload_n 0, 1) := by decide +kernel
theorem dX1_isDown_1 : decode cX1_isDown 1 = .ok (.getfield 21, 3) := by decide +kernel
theorem dX1_isDown_4 : decode cX1_isDown 4 = .ok (.ifCond .lt 7, 3) := by decide +kernel
theorem dX1_isDown_7 : decode cX1_isDown 7 = .ok (.iconst 1, 1) := by decide +kernel
theorem dX1_isDown_8 : decode cX1_isDown 8 = .ok (.goto 4, 3) := by decide +kernel
theorem dX1_isDown_11 : decode cX1_isDown 11 = .ok (.iconst 0, 1) := by decide +kernel
theorem dX1_isDown_12 : decode cX1_isDown 12 = .ok (.ireturn, 1) := by decide +kernel
theorem dX1_isLookedAt_0 : decode cX1_isLookedAt 0 = .ok (.aload_n 0, 1) := by decide +kernel
theorem dX1_isLookedAt_1 : decode cX1_isLookedAt 1 = .ok (.getfield 28, 3) := by decide +kernel
theorem dX1_isLookedAt_4 : decode cX1_isLookedAt 4 = .ok (.ifCond .lt 7, 3) := by decide +kernel
theorem dX1_isLookedAt_7 : decode cX1_isLookedAt 7 = .ok (.iconst 1, 1) := by decide +kernel
theorem dX1_isLookedAt_8 : decode cX1_isLookedAt 8 = .ok (.goto 4, 3) := by decide +kernel
theorem dX1_isLookedAt_11 : decode cX1_isLookedAt 11 = .ok (.iconst 0, 1) := by decide +kernel
theorem dX1_isLookedAt_12 : decode cX1_isLookedAt 12 = .ok (.ireturn, 1) := by decide +kernel
theorem dX1_isAskedBy_0 : decode cX1_isAskedBy 0 = .ok (.iconst 0, 1) := by decide +kernel
theorem dX1_isAskedBy_1 : decode cX1_isAskedBy 1 = .ok (.istore_n 2, 1) := by decide +kernel
theorem dX1_isAskedBy_2 : decode cX1_isAskedBy 2 = .ok (.iload_n 2, 1) := by decide +kernel
theorem dX1_isAskedBy_3 : decode cX1_isAskedBy 3 = .ok (.aload_n 0, 1) := by decide +kernel
theorem dX1_isAskedBy_4 : decode cX1_isAskedBy 4 = .ok (.getfield 55, 3) := by decide +kernel
theorem dX1_isAskedBy_7 : decode cX1_isAskedBy 7 = .ok (.if_icmp .ge 21, 3) := by decide +kernel
theorem dX1_isAskedBy_10 : decode cX1_isAskedBy 10 = .ok (.aload_n 0, 1) := by decide +kernel
theorem dX1_isAskedBy_11 : decode cX1_isAskedBy 11 = .ok (.getfield 18, 3) := by decide +kernel
theorem dX1_isAskedBy_14 : decode cX1_isAskedBy 14 = .ok (.iload_n 2, 1) := by decide +kernel
theorem dX1_isAskedBy_15 : decode cX1_isAskedBy 15 = .ok (.iaload, 1) := by decide +kernel
theorem dX1_isAskedBy_16 : decode cX1_isAskedBy 16 = .ok (.iload_n 1, 1) := by decide +kernel
theorem dX1_isAskedBy_17 : decode cX1_isAskedBy 17 = .ok (.if_icmp .ne 5, 3) := by decide +kernel
theorem dX1_isAskedBy_20 : decode cX1_isAskedBy 20 = .ok (.iconst 1, 1) := by decide +kernel
theorem dX1_isAskedBy_21 : decode cX1_isAskedBy 21 = .ok (.ireturn, 1) := by decide +kernel
theorem dX1_isAskedBy_22 : decode cX1_isAskedBy 22 = .ok (.iinc 2 1, 3) := by decide +kernel
theorem dX1_isAskedBy_25 : decode cX1_isAskedBy 25 = .ok (.goto (-23), 3) := by decide +kernel
theorem dX1_isAskedBy_28 : decode cX1_isAskedBy 28 = .ok (.iconst 0, 1) := by decide +kernel
theorem dX1_isAskedBy_29 : decode cX1_isAskedBy 29 = .ok (.ireturn, 1) := by decide +kernel
theorem dX1_isOnPaper_0 : decode cX1_isOnPaper 0 = .ok (.iconst 0, 1) := by decide +kernel
theorem dX1_isOnPaper_1 : decode cX1_isOnPaper 1 = .ok (.istore_n 2, 1) := by decide +kernel
theorem dX1_isOnPaper_2 : decode cX1_isOnPaper 2 = .ok (.iload_n 2, 1) := by decide +kernel
theorem dX1_isOnPaper_3 : decode cX1_isOnPaper 3 = .ok (.aload_n 0, 1) := by decide +kernel
theorem dX1_isOnPaper_4 : decode cX1_isOnPaper 4 = .ok (.getfield 58, 3) := by decide +kernel
theorem dX1_isOnPaper_7 : decode cX1_isOnPaper 7 = .ok (.if_icmp .ge 21, 3) := by decide +kernel
theorem dX1_isOnPaper_10 : decode cX1_isOnPaper 10 = .ok (.aload_n 0, 1) := by decide +kernel
theorem dX1_isOnPaper_11 : decode cX1_isOnPaper 11 = .ok (.getfield 15, 3) := by decide +kernel
theorem dX1_isOnPaper_14 : decode cX1_isOnPaper 14 = .ok (.iload_n 2, 1) := by decide +kernel
theorem dX1_isOnPaper_15 : decode cX1_isOnPaper 15 = .ok (.iaload, 1) := by decide +kernel
theorem dX1_isOnPaper_16 : decode cX1_isOnPaper 16 = .ok (.iload_n 1, 1) := by decide +kernel
theorem dX1_isOnPaper_17 : decode cX1_isOnPaper 17 = .ok (.if_icmp .ne 5, 3) := by decide +kernel
theorem dX1_isOnPaper_20 : decode cX1_isOnPaper 20 = .ok (.iconst 1, 1) := by decide +kernel
theorem dX1_isOnPaper_21 : decode cX1_isOnPaper 21 = .ok (.ireturn, 1) := by decide +kernel
theorem dX1_isOnPaper_22 : decode cX1_isOnPaper 22 = .ok (.iinc 2 1, 3) := by decide +kernel
theorem dX1_isOnPaper_25 : decode cX1_isOnPaper 25 = .ok (.goto (-23), 3) := by decide +kernel
theorem dX1_isOnPaper_28 : decode cX1_isOnPaper 28 = .ok (.iconst 0, 1) := by decide +kernel
theorem dX1_isOnPaper_29 : decode cX1_isOnPaper 29 = .ok (.ireturn, 1) := by decide +kernel
theorem dX2_init_0 : decode cX2_init 0 = .ok (.aload_n 0, 1) := by decide +kernel
theorem dX2_init_1 : decode cX2_init 1 = .ok (.iload_n 1, 1) := by decide +kernel
theorem dX2_init_2 : decode cX2_init 2 = .ok (.bipush 7, 2) := by decide +kernel
theorem dX2_init_4 : decode cX2_init 4 = .ok (.invokespecial 3, 3) := by decide +kernel
theorem dX2_init_7 : decode cX2_init 7 = .ok (.aload_n 0, 1) := by decide +kernel
theorem dX2_init_8 : decode cX2_init 8 = .ok (.iconst (-1), 1) := by decide +kernel
theorem dX2_init_9 : decode cX2_init 9 = .ok (.putfield 9, 3) := by decide +kernel
theorem dX2_init_12 : decode cX2_init 12 = .ok (.aload_n 0, 1) := by decide +kernel
theorem dX2_init_13 : decode cX2_init 13 = .ok (.iload_n 2, 1) := by decide +kernel
theorem dX2_init_14 : decode cX2_init 14 = .ok (.putfield 15, 3) := by decide +kernel
theorem dX2_init_17 : decode cX2_init 17 = .ok (.aload_n 0, 1) := by decide +kernel
theorem dX2_init_18 : decode cX2_init 18 = .ok (.iload_n 3, 1) := by decide +kernel
theorem dX2_init_19 : decode cX2_init 19 = .ok (.putfield 18, 3) := by decide +kernel
theorem dX2_init_22 : decode cX2_init 22 = .ok (.return_, 1) := by decide +kernel
theorem dX2_hasLeft_0 : decode cX2_hasLeft 0 = .ok (.aload_n 0, 1) := by decide +kernel
theorem dX2_hasLeft_1 : decode cX2_hasLeft 1 = .ok (.getfield 9, 3) := by decide +kernel
theorem dX2_hasLeft_4 : decode cX2_hasLeft 4 = .ok (.ifCond .lt 7, 3) := by decide +kernel
theorem dX2_hasLeft_7 : decode cX2_hasLeft 7 = .ok (.iconst 1, 1) := by decide +kernel
theorem dX2_hasLeft_8 : decode cX2_hasLeft 8 = .ok (.goto 4, 3) := by decide +kernel
theorem dX2_hasLeft_11 : decode cX2_hasLeft 11 = .ok (.iconst 0, 1) := by decide +kernel
theorem dX2_hasLeft_12 : decode cX2_hasLeft 12 = .ok (.ireturn, 1) := by decide +kernel
theorem dX3_init_0 : decode cX3_init 0 = .ok (.aload_n 0, 1) := by decide +kernel
theorem dX3_init_1 : decode cX3_init 1 = .ok (.invokespecial 3, 3) := by decide +kernel
theorem dX3_init_4 : decode cX3_init 4 = .ok (.aload_n 0, 1) := by decide +kernel
theorem dX3_init_5 : decode cX3_init 5 = .ok (.bipush 60, 2) := by decide +kernel
theorem dX3_init_7 : decode cX3_init 7 = .ok (.newarray .int, 2) := by decide +kernel
theorem dX3_init_9 : decode cX3_init 9 = .ok (.putfield 9, 3) := by decide +kernel
theorem dX3_init_12 : decode cX3_init 12 = .ok (.aload_n 0, 1) := by decide +kernel
theorem dX3_init_13 : decode cX3_init 13 = .ok (.sipush 150, 3) := by decide +kernel
theorem dX3_init_16 : decode cX3_init 16 = .ok (.anewarray 15, 3) := by decide +kernel
theorem dX3_init_19 : decode cX3_init 19 = .ok (.putfield 17, 3) := by decide +kernel
theorem dX3_init_22 : decode cX3_init 22 = .ok (.aload_n 0, 1) := by decide +kernel
theorem dX3_init_23 : decode cX3_init 23 = .ok (.iconst 4, 1) := by decide +kernel
theorem dX3_init_24 : decode cX3_init 24 = .ok (.newarray .int, 2) := by decide +kernel
theorem dX3_init_26 : decode cX3_init 26 = .ok (.putfield 21, 3) := by decide +kernel
theorem dX3_init_29 : decode cX3_init 29 = .ok (.aload_n 0, 1) := by decide +kernel
theorem dX3_init_30 : decode cX3_init 30 = .ok (.sipush 200, 3) := by decide +kernel
theorem dX3_init_33 : decode cX3_init 33 = .ok (.newarray .int, 2) := by decide +kernel
theorem dX3_init_35 : decode cX3_init 35 = .ok (.putfield 24, 3) := by decide +kernel
theorem dX3_init_38 : decode cX3_init 38 = .ok (.aload_n 0, 1) := by decide +kernel
theorem dX3_init_39 : decode cX3_init 39 = .ok (.sipush 200, 3) := by decide +kernel
theorem dX3_init_42 : decode cX3_init 42 = .ok (.newarray .int, 2) := by decide +kernel
theorem dX3_init_44 : decode cX3_init 44 = .ok (.putfield 27, 3) := by decide +kernel
theorem dX3_init_47 : decode cX3_init 47 = .ok (.aload_n 0, 1) := by decide +kernel
theorem dX3_init_48 : decode cX3_init 48 = .ok (.sipush 200, 3) := by decide +kernel
theorem dX3_init_51 : decode cX3_init 51 = .ok (.newarray .int, 2) := by decide +kernel
theorem dX3_init_53 : decode cX3_init 53 = .ok (.putfield 30, 3) := by decide +kernel
theorem dX3_init_56 : decode cX3_init 56 = .ok (.aload_n 0, 1) := by decide +kernel
theorem dX3_init_57 : decode cX3_init 57 = .ok (.getfield 9, 3) := by decide +kernel
theorem dX3_init_60 : decode cX3_init 60 = .ok (.iconst (-1), 1) := by decide +kernel
theorem dX3_init_61 : decode cX3_init 61 = .ok (.invokestatic 33, 3) := by decide +kernel
theorem dX3_init_64 : decode cX3_init 64 = .ok (.return_, 1) := by decide +kernel
theorem dX3_isFull_0 : decode cX3_isFull 0 = .ok (.aload_n 0, 1) := by decide +kernel
theorem dX3_isFull_1 : decode cX3_isFull 1 = .ok (.getfield 39, 3) := by decide +kernel
theorem dX3_isFull_4 : decode cX3_isFull 4 = .ok (.sipush 150, 3) := by decide +kernel
theorem dX3_isFull_7 : decode cX3_isFull 7 = .ok (.if_icmp .lt 7, 3) := by decide +kernel
theorem dX3_isFull_10 : decode cX3_isFull 10 = .ok (.iconst 1, 1) := by decide +kernel
theorem dX3_isFull_11 : decode cX3_isFull 11 = .ok (.goto 4, 3) := by decide +kernel
theorem dX3_isFull_14 : decode cX3_isFull 14 = .ok (.iconst 0, 1) := by decide +kernel
theorem dX3_isFull_15 : decode cX3_isFull 15 = .ok (.ireturn, 1) := by decide +kernel
theorem dX3_enter_0 : decode cX3_enter 0 = .ok (.aload_n 0, 1) := by decide +kernel
theorem dX3_enter_1 : decode cX3_enter 1 = .ok (.getfield 17, 3) := by decide +kernel
theorem dX3_enter_4 : decode cX3_enter 4 = .ok (.aload_n 0, 1) := by decide +kernel
theorem dX3_enter_5 : decode cX3_enter 5 = .ok (.getfield 39, 3) := by decide +kernel
theorem dX3_enter_8 : decode cX3_enter 8 = .ok (.aload_n 1, 1) := by decide +kernel
theorem dX3_enter_9 : decode cX3_enter 9 = .ok (.aastore, 1) := by decide +kernel
theorem dX3_enter_10 : decode cX3_enter 10 = .ok (.aload_n 0, 1) := by decide +kernel
theorem dX3_enter_11 : decode cX3_enter 11 = .ok (.dup, 1) := by decide +kernel
theorem dX3_enter_12 : decode cX3_enter 12 = .ok (.getfield 39, 3) := by decide +kernel
theorem dX3_enter_15 : decode cX3_enter 15 = .ok (.iconst 1, 1) := by decide +kernel
theorem dX3_enter_16 : decode cX3_enter 16 = .ok (.iadd, 1) := by decide +kernel
theorem dX3_enter_17 : decode cX3_enter 17 = .ok (.putfield 39, 3) := by decide +kernel
theorem dX3_enter_20 : decode cX3_enter 20 = .ok (.aload_n 1, 1) := by decide +kernel
theorem dX3_enter_21 : decode cX3_enter 21 = .ok (.getfield 43, 3) := by decide +kernel
theorem dX3_enter_24 : decode cX3_enter 24 = .ok (.ireturn, 1) := by decide +kernel
theorem dX3_bodyAt_0 : decode cX3_bodyAt 0 = .ok (.iload_n 1, 1) := by decide +kernel
theorem dX3_bodyAt_1 : decode cX3_bodyAt 1 = .ok (.ifCond .lt 11, 3) := by decide +kernel
theorem dX3_bodyAt_4 : decode cX3_bodyAt 4 = .ok (.iload_n 1, 1) := by decide +kernel
theorem dX3_bodyAt_5 : decode cX3_bodyAt 5 = .ok (.aload_n 0, 1) := by decide +kernel
theorem dX3_bodyAt_6 : decode cX3_bodyAt 6 = .ok (.getfield 39, 3) := by decide +kernel
theorem dX3_bodyAt_9 : decode cX3_bodyAt 9 = .ok (.if_icmp .lt 7, 3) := by decide +kernel
theorem dX3_bodyAt_12 : decode cX3_bodyAt 12 = .ok (.aconst_null, 1) := by decide +kernel
theorem dX3_bodyAt_13 : decode cX3_bodyAt 13 = .ok (.goto 9, 3) := by decide +kernel
theorem dX3_bodyAt_16 : decode cX3_bodyAt 16 = .ok (.aload_n 0, 1) := by decide +kernel
theorem dX3_bodyAt_17 : decode cX3_bodyAt 17 = .ok (.getfield 17, 3) := by decide +kernel
theorem dX3_bodyAt_20 : decode cX3_bodyAt 20 = .ok (.iload_n 1, 1) := by decide +kernel
theorem dX3_bodyAt_21 : decode cX3_bodyAt 21 = .ok (.aaload, 1) := by decide +kernel
theorem dX3_bodyAt_22 : decode cX3_bodyAt 22 = .ok (.areturn, 1) := by decide +kernel
theorem dX3_finderAt_0 : decode cX3_finderAt 0 = .ok (.iload_n 1, 1) := by decide +kernel
theorem dX3_finderAt_1 : decode cX3_finderAt 1 = .ok (.ifCond .lt 11, 3) := by decide +kernel
theorem dX3_finderAt_4 : decode cX3_finderAt 4 = .ok (.iload_n 1, 1) := by decide +kernel
theorem dX3_finderAt_5 : decode cX3_finderAt 5 = .ok (.aload_n 0, 1) := by decide +kernel
theorem dX3_finderAt_6 : decode cX3_finderAt 6 = .ok (.getfield 39, 3) := by decide +kernel
theorem dX3_finderAt_9 : decode cX3_finderAt 9 = .ok (.if_icmp .lt 7, 3) := by decide +kernel
theorem dX3_finderAt_12 : decode cX3_finderAt 12 = .ok (.aconst_null, 1) := by decide +kernel
theorem dX3_finderAt_13 : decode cX3_finderAt 13 = .ok (.goto 9, 3) := by decide +kernel
theorem dX3_finderAt_16 : decode cX3_finderAt 16 = .ok (.aload_n 0, 1) := by decide +kernel
theorem dX3_finderAt_17 : decode cX3_finderAt 17 = .ok (.getfield 17, 3) := by decide +kernel
theorem dX3_finderAt_20 : decode cX3_finderAt 20 = .ok (.iload_n 1, 1) := by decide +kernel
theorem dX3_finderAt_21 : decode cX3_finderAt 21 = .ok (.aaload, 1) := by decide +kernel
theorem dX3_finderAt_22 : decode cX3_finderAt 22 = .ok (.astore_n 2, 1) := by decide +kernel
theorem dX3_finderAt_23 : decode cX3_finderAt 23 = .ok (.aload_n 2, 1) := by decide +kernel
theorem dX3_finderAt_24 : decode cX3_finderAt 24 = .ok (.instanceof 46, 3) := by decide +kernel
theorem dX3_finderAt_27 : decode cX3_finderAt 27 = .ok (.ifCond .eq 10, 3) := by decide +kernel
theorem dX3_finderAt_30 : decode cX3_finderAt 30 = .ok (.aload_n 2, 1) := by decide +kernel
theorem dX3_finderAt_31 : decode cX3_finderAt 31 = .ok (.checkcast 46, 3) := by decide +kernel
theorem dX3_finderAt_34 : decode cX3_finderAt 34 = .ok (.goto 4, 3) := by decide +kernel
theorem dX3_finderAt_37 : decode cX3_finderAt 37 = .ok (.aconst_null, 1) := by decide +kernel
theorem dX3_finderAt_38 : decode cX3_finderAt 38 = .ok (.areturn, 1) := by decide +kernel
theorem dX3_boxAt_0 : decode cX3_boxAt 0 = .ok (.iload_n 1, 1) := by decide +kernel
theorem dX3_boxAt_1 : decode cX3_boxAt 1 = .ok (.ifCond .lt 11, 3) := by decide +kernel
theorem dX3_boxAt_4 : decode cX3_boxAt 4 = .ok (.iload_n 1, 1) := by decide +kernel
theorem dX3_boxAt_5 : decode cX3_boxAt 5 = .ok (.aload_n 0, 1) := by decide +kernel
theorem dX3_boxAt_6 : decode cX3_boxAt 6 = .ok (.getfield 39, 3) := by decide +kernel
theorem dX3_boxAt_9 : decode cX3_boxAt 9 = .ok (.if_icmp .lt 7, 3) := by decide +kernel
theorem dX3_boxAt_12 : decode cX3_boxAt 12 = .ok (.aconst_null, 1) := by decide +kernel
theorem dX3_boxAt_13 : decode cX3_boxAt 13 = .ok (.goto 9, 3) := by decide +kernel
theorem dX3_boxAt_16 : decode cX3_boxAt 16 = .ok (.aload_n 0, 1) := by decide +kernel
theorem dX3_boxAt_17 : decode cX3_boxAt 17 = .ok (.getfield 17, 3) := by decide +kernel
theorem dX3_boxAt_20 : decode cX3_boxAt 20 = .ok (.iload_n 1, 1) := by decide +kernel
theorem dX3_boxAt_21 : decode cX3_boxAt 21 = .ok (.aaload, 1) := by decide +kernel
theorem dX3_boxAt_22 : decode cX3_boxAt 22 = .ok (.astore_n 2, 1) := by decide +kernel
theorem dX3_boxAt_23 : decode cX3_boxAt 23 = .ok (.aload_n 2, 1) := by decide +kernel
theorem dX3_boxAt_24 : decode cX3_boxAt 24 = .ok (.instanceof 48, 3) := by decide +kernel
theorem dX3_boxAt_27 : decode cX3_boxAt 27 = .ok (.ifCond .eq 10, 3) := by decide +kernel
theorem dX3_boxAt_30 : decode cX3_boxAt 30 = .ok (.aload_n 2, 1) := by decide +kernel
theorem dX3_boxAt_31 : decode cX3_boxAt 31 = .ok (.checkcast 48, 3) := by decide +kernel
theorem dX3_boxAt_34 : decode cX3_boxAt 34 = .ok (.goto 4, 3) := by decide +kernel
theorem dX3_boxAt_37 : decode cX3_boxAt 37 = .ok (.aconst_null, 1) := by decide +kernel
theorem dX3_boxAt_38 : decode cX3_boxAt 38 = .ok (.areturn, 1) := by decide +kernel
theorem dX3_thingAt_0 : decode cX3_thingAt 0 = .ok (.iload_n 1, 1) := by decide +kernel
theorem dX3_thingAt_1 : decode cX3_thingAt 1 = .ok (.ifCond .lt 11, 3) := by decide +kernel
theorem dX3_thingAt_4 : decode cX3_thingAt 4 = .ok (.iload_n 1, 1) := by decide +kernel
theorem dX3_thingAt_5 : decode cX3_thingAt 5 = .ok (.aload_n 0, 1) := by decide +kernel
theorem dX3_thingAt_6 : decode cX3_thingAt 6 = .ok (.getfield 39, 3) := by decide +kernel
theorem dX3_thingAt_9 : decode cX3_thingAt 9 = .ok (.if_icmp .lt 7, 3) := by decide +kernel
theorem dX3_thingAt_12 : decode cX3_thingAt 12 = .ok (.aconst_null, 1) := by decide +kernel
theorem dX3_thingAt_13 : decode cX3_thingAt 13 = .ok (.goto 9, 3) := by decide +kernel
theorem dX3_thingAt_16 : decode cX3_thingAt 16 = .ok (.aload_n 0, 1) := by decide +kernel
theorem dX3_thingAt_17 : decode cX3_thingAt 17 = .ok (.getfield 17, 3) := by decide +kernel
theorem dX3_thingAt_20 : decode cX3_thingAt 20 = .ok (.iload_n 1, 1) := by decide +kernel
theorem dX3_thingAt_21 : decode cX3_thingAt 21 = .ok (.aaload, 1) := by decide +kernel
theorem dX3_thingAt_22 : decode cX3_thingAt 22 = .ok (.astore_n 2, 1) := by decide +kernel
theorem dX3_thingAt_23 : decode cX3_thingAt 23 = .ok (.aload_n 2, 1) := by decide +kernel
theorem dX3_thingAt_24 : decode cX3_thingAt 24 = .ok (.instanceof 50, 3) := by decide +kernel
theorem dX3_thingAt_27 : decode cX3_thingAt 27 = .ok (.ifCond .eq 10, 3) := by decide +kernel
theorem dX3_thingAt_30 : decode cX3_thingAt 30 = .ok (.aload_n 2, 1) := by decide +kernel
theorem dX3_thingAt_31 : decode cX3_thingAt 31 = .ok (.checkcast 50, 3) := by decide +kernel
theorem dX3_thingAt_34 : decode cX3_thingAt 34 = .ok (.goto 4, 3) := by decide +kernel
theorem dX3_thingAt_37 : decode cX3_thingAt 37 = .ok (.aconst_null, 1) := by decide +kernel
theorem dX3_thingAt_38 : decode cX3_thingAt 38 = .ok (.areturn, 1) := by decide +kernel
theorem dX3_ownOf_0 : decode cX3_ownOf 0 = .ok (.iconst 0, 1) := by decide +kernel
theorem dX3_ownOf_1 : decode cX3_ownOf 1 = .ok (.istore_n 2, 1) := by decide +kernel
theorem dX3_ownOf_2 : decode cX3_ownOf 2 = .ok (.iconst 0, 1) := by decide +kernel
theorem dX3_ownOf_3 : decode cX3_ownOf 3 = .ok (.istore_n 3, 1) := by decide +kernel
theorem dX3_ownOf_4 : decode cX3_ownOf 4 = .ok (.iload_n 3, 1) := by decide +kernel
theorem dX3_ownOf_5 : decode cX3_ownOf 5 = .ok (.aload_n 0, 1) := by decide +kernel
theorem dX3_ownOf_6 : decode cX3_ownOf 6 = .ok (.getfield 39, 3) := by decide +kernel
theorem dX3_ownOf_9 : decode cX3_ownOf 9 = .ok (.if_icmp .ge 41, 3) := by decide +kernel
theorem dX3_ownOf_12 : decode cX3_ownOf 12 = .ok (.aload_n 0, 1) := by decide +kernel
theorem dX3_ownOf_13 : decode cX3_ownOf 13 = .ok (.iload_n 3, 1) := by decide +kernel
theorem dX3_ownOf_14 : decode cX3_ownOf 14 = .ok (.invokevirtual 52, 3) := by decide +kernel
theorem dX3_ownOf_17 : decode cX3_ownOf 17 = .ok (.astore 4, 2) := by decide +kernel
theorem dX3_ownOf_19 : decode cX3_ownOf 19 = .ok (.aload 4, 2) := by decide +kernel
theorem dX3_ownOf_21 : decode cX3_ownOf 21 = .ok (.ifnull 23, 3) := by decide +kernel
theorem dX3_ownOf_24 : decode cX3_ownOf 24 = .ok (.aload 4, 2) := by decide +kernel
theorem dX3_ownOf_26 : decode cX3_ownOf 26 = .ok (.getfield 56, 3) := by decide +kernel
theorem dX3_ownOf_29 : decode cX3_ownOf 29 = .ok (.iload_n 1, 1) := by decide +kernel
theorem dX3_ownOf_30 : decode cX3_ownOf 30 = .ok (.if_icmp .ne 14, 3) := by decide +kernel
theorem dX3_ownOf_33 : decode cX3_ownOf 33 = .ok (.aload 4, 2) := by decide +kernel
theorem dX3_ownOf_35 : decode cX3_ownOf 35 = .ok (.getfield 59, 3) := by decide +kernel
theorem dX3_ownOf_38 : decode cX3_ownOf 38 = .ok (.ifCond .ge 6, 3) := by decide +kernel
theorem dX3_ownOf_41 : decode cX3_ownOf 41 = .ok (.iinc 2 1, 3) := by decide +kernel
theorem dX3_ownOf_44 : decode cX3_ownOf 44 = .ok (.iinc 3 1, 3) := by decide +kernel
theorem dX3_ownOf_47 : decode cX3_ownOf 47 = .ok (.goto (-43), 3) := by decide +kernel
theorem dX3_ownOf_50 : decode cX3_ownOf 50 = .ok (.iload_n 2, 1) := by decide +kernel
theorem dX3_ownOf_51 : decode cX3_ownOf 51 = .ok (.ireturn, 1) := by decide +kernel
theorem dX3_moveTo_0 : decode cX3_moveTo 0 = .ok (.aload_n 0, 1) := by decide +kernel
theorem dX3_moveTo_1 : decode cX3_moveTo 1 = .ok (.getfield 24, 3) := by decide +kernel
theorem dX3_moveTo_4 : decode cX3_moveTo 4 = .ok (.aload_n 0, 1) := by decide +kernel
theorem dX3_moveTo_5 : decode cX3_moveTo 5 = .ok (.getfield 62, 3) := by decide +kernel
theorem dX3_moveTo_8 : decode cX3_moveTo 8 = .ok (.aload_n 1, 1) := by decide +kernel
theorem dX3_moveTo_9 : decode cX3_moveTo 9 = .ok (.getfield 65, 3) := by decide +kernel
theorem dX3_moveTo_12 : decode cX3_moveTo 12 = .ok (.iastore, 1) := by decide +kernel
theorem dX3_moveTo_13 : decode cX3_moveTo 13 = .ok (.aload_n 0, 1) := by decide +kernel
theorem dX3_moveTo_14 : decode cX3_moveTo 14 = .ok (.getfield 27, 3) := by decide +kernel
theorem dX3_moveTo_17 : decode cX3_moveTo 17 = .ok (.aload_n 0, 1) := by decide +kernel
theorem dX3_moveTo_18 : decode cX3_moveTo 18 = .ok (.getfield 62, 3) := by decide +kernel
theorem dX3_moveTo_21 : decode cX3_moveTo 21 = .ok (.iload_n 3, 1) := by decide +kernel
theorem dX3_moveTo_22 : decode cX3_moveTo 22 = .ok (.iastore, 1) := by decide +kernel
theorem dX3_moveTo_23 : decode cX3_moveTo 23 = .ok (.aload_n 0, 1) := by decide +kernel
theorem dX3_moveTo_24 : decode cX3_moveTo 24 = .ok (.getfield 30, 3) := by decide +kernel
theorem dX3_moveTo_27 : decode cX3_moveTo 27 = .ok (.aload_n 0, 1) := by decide +kernel
theorem dX3_moveTo_28 : decode cX3_moveTo 28 = .ok (.getfield 62, 3) := by decide +kernel
theorem dX3_moveTo_31 : decode cX3_moveTo 31 = .ok (.iload_n 2, 1) := by decide +kernel
theorem dX3_moveTo_32 : decode cX3_moveTo 32 = .ok (.iastore, 1) := by decide +kernel
theorem dX3_moveTo_33 : decode cX3_moveTo 33 = .ok (.aload_n 0, 1) := by decide +kernel
theorem dX3_moveTo_34 : decode cX3_moveTo 34 = .ok (.dup, 1) := by decide +kernel
theorem dX3_moveTo_35 : decode cX3_moveTo 35 = .ok (.getfield 62, 3) := by decide +kernel
theorem dX3_moveTo_38 : decode cX3_moveTo 38 = .ok (.iconst 1, 1) := by decide +kernel
theorem dX3_moveTo_39 : decode cX3_moveTo 39 = .ok (.iadd, 1) := by decide +kernel
theorem dX3_moveTo_40 : decode cX3_moveTo 40 = .ok (.putfield 62, 3) := by decide +kernel
theorem dX3_moveTo_43 : decode cX3_moveTo 43 = .ok (.aload_n 1, 1) := by decide +kernel
theorem dX3_moveTo_44 : decode cX3_moveTo 44 = .ok (.iload_n 2, 1) := by decide +kernel
theorem dX3_moveTo_45 : decode cX3_moveTo 45 = .ok (.putfield 66, 3) := by decide +kernel
theorem dX3_moveTo_48 : decode cX3_moveTo 48 = .ok (.return_, 1) := by decide +kernel
theorem dX3_wasMovedFrom_0 : decode cX3_wasMovedFrom 0 = .ok (.iconst 0, 1) := by decide +kernel
theorem dX3_wasMovedFrom_1 : decode cX3_wasMovedFrom 1 = .ok (.istore_n 3, 1) := by decide +kernel
theorem dX3_wasMovedFrom_2 : decode cX3_wasMovedFrom 2 = .ok (.iload_n 3, 1) := by decide +kernel
theorem dX3_wasMovedFrom_3 : decode cX3_wasMovedFrom 3 = .ok (.aload_n 0, 1) := by decide +kernel
theorem dX3_wasMovedFrom_4 : decode cX3_wasMovedFrom 4 = .ok (.getfield 62, 3) := by decide +kernel
theorem dX3_wasMovedFrom_7 : decode cX3_wasMovedFrom 7 = .ok (.if_icmp .ge 31, 3) := by decide +kernel
theorem dX3_wasMovedFrom_10 : decode cX3_wasMovedFrom 10 = .ok (.aload_n 0, 1) := by decide +kernel
theorem dX3_wasMovedFrom_11 : decode cX3_wasMovedFrom 11 = .ok (.getfield 24, 3) := by decide +kernel
theorem dX3_wasMovedFrom_14 : decode cX3_wasMovedFrom 14 = .ok (.iload_n 3, 1) := by decide +kernel
theorem dX3_wasMovedFrom_15 : decode cX3_wasMovedFrom 15 = .ok (.iaload, 1) := by decide +kernel
theorem dX3_wasMovedFrom_16 : decode cX3_wasMovedFrom 16 = .ok (.iload_n 1, 1) := by decide +kernel
theorem dX3_wasMovedFrom_17 : decode cX3_wasMovedFrom 17 = .ok (.if_icmp .ne 15, 3) := by decide +kernel
theorem dX3_wasMovedFrom_20 : decode cX3_wasMovedFrom 20 = .ok (.aload_n 0, 1) := by decide +kernel
theorem dX3_wasMovedFrom_21 : decode cX3_wasMovedFrom 21 = .ok (.getfield 27, 3) := by decide +kernel
theorem dX3_wasMovedFrom_24 : decode cX3_wasMovedFrom 24 = .ok (.iload_n 3, 1) := by decide +kernel
theorem dX3_wasMovedFrom_25 : decode cX3_wasMovedFrom 25 = .ok (.iaload, 1) := by decide +kernel
theorem dX3_wasMovedFrom_26 : decode cX3_wasMovedFrom 26 = .ok (.iload_n 2, 1) := by decide +kernel
theorem dX3_wasMovedFrom_27 : decode cX3_wasMovedFrom 27 = .ok (.if_icmp .lt 5, 3) := by decide +kernel
theorem dX3_wasMovedFrom_30 : decode cX3_wasMovedFrom 30 = .ok (.iconst 1, 1) := by decide +kernel
theorem dX3_wasMovedFrom_31 : decode cX3_wasMovedFrom 31 = .ok (.ireturn, 1) := by decide +kernel
theorem dX3_wasMovedFrom_32 : decode cX3_wasMovedFrom 32 = .ok (.iinc 3 1, 3) := by decide +kernel
theorem dX3_wasMovedFrom_35 : decode cX3_wasMovedFrom 35 = .ok (.goto (-33), 3) := by decide +kernel
theorem dX3_wasMovedFrom_38 : decode cX3_wasMovedFrom 38 = .ok (.iconst 0, 1) := by decide +kernel
theorem dX3_wasMovedFrom_39 : decode cX3_wasMovedFrom 39 = .ok (.ireturn, 1) := by decide +kernel
theorem dX3_whereLay_0 : decode cX3_whereLay 0 = .ok (.aload_n 1, 1) := by decide +kernel
theorem dX3_whereLay_1 : decode cX3_whereLay 1 = .ok (.ifnull 32, 3) := by decide +kernel
theorem dX3_whereLay_4 : decode cX3_whereLay 4 = .ok (.iload_n 2, 1) := by decide +kernel
theorem dX3_whereLay_5 : decode cX3_whereLay 5 = .ok (.bipush 24, 2) := by decide +kernel
theorem dX3_whereLay_7 : decode cX3_whereLay 7 = .ok (.aload_n 1, 1) := by decide +kernel
theorem dX3_whereLay_8 : decode cX3_whereLay 8 = .ok (.getfield 69, 3) := by decide +kernel
theorem dX3_whereLay_11 : decode cX3_whereLay 11 = .ok (.imul, 1) := by decide +kernel
theorem dX3_whereLay_12 : decode cX3_whereLay 12 = .ok (.if_icmp .lt 21, 3) := by decide +kernel
theorem dX3_whereLay_15 : decode cX3_whereLay 15 = .ok (.aload_n 1, 1) := by decide +kernel
theorem dX3_whereLay_16 : decode cX3_whereLay 16 = .ok (.invokevirtual 72, 3) := by decide +kernel
theorem dX3_whereLay_19 : decode cX3_whereLay 19 = .ok (.ifCond .eq 16, 3) := by decide +kernel
theorem dX3_whereLay_22 : decode cX3_whereLay 22 = .ok (.iload_n 2, 1) := by decide +kernel
theorem dX3_whereLay_23 : decode cX3_whereLay 23 = .ok (.bipush 24, 2) := by decide +kernel
theorem dX3_whereLay_25 : decode cX3_whereLay 25 = .ok (.aload_n 1, 1) := by decide +kernel
theorem dX3_whereLay_26 : decode cX3_whereLay 26 = .ok (.getfield 59, 3) := by decide +kernel
theorem dX3_whereLay_29 : decode cX3_whereLay 29 = .ok (.imul, 1) := by decide +kernel
theorem dX3_whereLay_30 : decode cX3_whereLay 30 = .ok (.if_icmp .lt 5, 3) := by decide +kernel
theorem dX3_whereLay_33 : decode cX3_whereLay 33 = .ok (.iconst (-1), 1) := by decide +kernel
theorem dX3_whereLay_34 : decode cX3_whereLay 34 = .ok (.ireturn, 1) := by decide +kernel
theorem dX3_whereLay_35 : decode cX3_whereLay 35 = .ok (.aload_n 1, 1) := by decide +kernel
theorem dX3_whereLay_36 : decode cX3_whereLay 36 = .ok (.getfield 76, 3) := by decide +kernel
theorem dX3_whereLay_39 : decode cX3_whereLay 39 = .ok (.iconst 4, 1) := by decide +kernel
theorem dX3_whereLay_40 : decode cX3_whereLay 40 = .ok (.if_icmp .eq 8, 3) := by decide +kernel
theorem dX3_whereLay_43 : decode cX3_whereLay 43 = .ok (.aload_n 1, 1) := by decide +kernel
theorem dX3_whereLay_44 : decode cX3_whereLay 44 = .ok (.invokevirtual 79, 3) := by decide +kernel
theorem dX3_whereLay_47 : decode cX3_whereLay 47 = .ok (.ireturn, 1) := by decide +kernel
theorem dX3_whereLay_48 : decode cX3_whereLay 48 = .ok (.aload_n 0, 1) := by decide +kernel
theorem dX3_whereLay_49 : decode cX3_whereLay 49 = .ok (.getfield 62, 3) := by decide +kernel
theorem dX3_whereLay_52 : decode cX3_whereLay 52 = .ok (.iconst 1, 1) := by decide +kernel
theorem dX3_whereLay_53 : decode cX3_whereLay 53 = .ok (.isub, 1) := by decide +kernel
theorem dX3_whereLay_54 : decode cX3_whereLay 54 = .ok (.istore_n 3, 1) := by decide +kernel
theorem dX3_whereLay_55 : decode cX3_whereLay 55 = .ok (.iload_n 3, 1) := by decide +kernel
theorem dX3_whereLay_56 : decode cX3_whereLay 56 = .ok (.ifCond .lt 39, 3) := by decide +kernel
theorem dX3_whereLay_59 : decode cX3_whereLay 59 = .ok (.aload_n 0, 1) := by decide +kernel
theorem dX3_whereLay_60 : decode cX3_whereLay 60 = .ok (.getfield 24, 3) := by decide +kernel
theorem dX3_whereLay_63 : decode cX3_whereLay 63 = .ok (.iload_n 3, 1) := by decide +kernel
theorem dX3_whereLay_64 : decode cX3_whereLay 64 = .ok (.iaload, 1) := by decide +kernel
theorem dX3_whereLay_65 : decode cX3_whereLay 65 = .ok (.aload_n 1, 1) := by decide +kernel
theorem dX3_whereLay_66 : decode cX3_whereLay 66 = .ok (.getfield 65, 3) := by decide +kernel
theorem dX3_whereLay_69 : decode cX3_whereLay 69 = .ok (.if_icmp .ne 20, 3) := by decide +kernel
theorem dX3_whereLay_72 : decode cX3_whereLay 72 = .ok (.aload_n 0, 1) := by decide +kernel
theorem dX3_whereLay_73 : decode cX3_whereLay 73 = .ok (.getfield 27, 3) := by decide +kernel
theorem dX3_whereLay_76 : decode cX3_whereLay 76 = .ok (.iload_n 3, 1) := by decide +kernel
theorem dX3_whereLay_77 : decode cX3_whereLay 77 = .ok (.iaload, 1) := by decide +kernel
theorem dX3_whereLay_78 : decode cX3_whereLay 78 = .ok (.iload_n 2, 1) := by decide +kernel
theorem dX3_whereLay_79 : decode cX3_whereLay 79 = .ok (.if_icmp .gt 10, 3) := by decide +kernel
theorem dX3_whereLay_82 : decode cX3_whereLay 82 = .ok (.aload_n 0, 1) := by decide +kernel
theorem dX3_whereLay_83 : decode cX3_whereLay 83 = .ok (.getfield 30, 3) := by decide +kernel
theorem dX3_whereLay_86 : decode cX3_whereLay 86 = .ok (.iload_n 3, 1) := by decide +kernel
theorem dX3_whereLay_87 : decode cX3_whereLay 87 = .ok (.iaload, 1) := by decide +kernel
theorem dX3_whereLay_88 : decode cX3_whereLay 88 = .ok (.ireturn, 1) := by decide +kernel
theorem dX3_whereLay_89 : decode cX3_whereLay 89 = .ok (.iinc 3 (-1), 3) := by decide +kernel
theorem dX3_whereLay_92 : decode cX3_whereLay 92 = .ok (.goto (-37), 3) := by decide +kernel
theorem dX3_whereLay_95 : decode cX3_whereLay 95 = .ok (.aload_n 1, 1) := by decide +kernel
theorem dX3_whereLay_96 : decode cX3_whereLay 96 = .ok (.getfield 83, 3) := by decide +kernel
theorem dX3_whereLay_99 : decode cX3_whereLay 99 = .ok (.ireturn, 1) := by decide +kernel
theorem dX4_init_0 : decode cX4_init 0 = .ok (.aload_n 0, 1) := by decide +kernel
theorem dX4_init_1 : decode cX4_init 1 = .ok (.invokespecial 3, 3) := by decide +kernel
theorem dX4_init_4 : decode cX4_init 4 = .ok (.aload_n 0, 1) := by decide +kernel
theorem dX4_init_5 : decode cX4_init 5 = .ok (.sipush 300, 3) := by decide +kernel
theorem dX4_init_8 : decode cX4_init 8 = .ok (.newarray .int, 2) := by decide +kernel
theorem dX4_init_10 : decode cX4_init 10 = .ok (.putfield 9, 3) := by decide +kernel
theorem dX4_init_13 : decode cX4_init 13 = .ok (.aload_n 0, 1) := by decide +kernel
theorem dX4_init_14 : decode cX4_init 14 = .ok (.sipush 300, 3) := by decide +kernel
theorem dX4_init_17 : decode cX4_init 17 = .ok (.newarray .boolean, 2) := by decide +kernel
theorem dX4_init_19 : decode cX4_init 19 = .ok (.putfield 15, 3) := by decide +kernel
theorem dX4_init_22 : decode cX4_init 22 = .ok (.aload_n 0, 1) := by decide +kernel
theorem dX4_init_23 : decode cX4_init 23 = .ok (.sipush 150, 3) := by decide +kernel
theorem dX4_init_26 : decode cX4_init 26 = .ok (.newarray .int, 2) := by decide +kernel
theorem dX4_init_28 : decode cX4_init 28 = .ok (.putfield 19, 3) := by decide +kernel
theorem dX4_init_31 : decode cX4_init 31 = .ok (.aload_n 0, 1) := by decide +kernel
theorem dX4_init_32 : decode cX4_init 32 = .ok (.sipush 300, 3) := by decide +kernel
theorem dX4_init_35 : decode cX4_init 35 = .ok (.newarray .int, 2) := by decide +kernel
theorem dX4_init_37 : decode cX4_init 37 = .ok (.putfield 22, 3) := by decide +kernel
theorem dX4_init_40 : decode cX4_init 40 = .ok (.aload_n 0, 1) := by decide +kernel
theorem dX4_init_41 : decode cX4_init 41 = .ok (.sipush 300, 3) := by decide +kernel
theorem dX4_init_44 : decode cX4_init 44 = .ok (.newarray .int, 2) := by decide +kernel
theorem dX4_init_46 : decode cX4_init 46 = .ok (.putfield 25, 3) := by decide +kernel
theorem dX4_init_49 : decode cX4_init 49 = .ok (.aload_n 0, 1) := by decide +kernel
theorem dX4_init_50 : decode cX4_init 50 = .ok (.sipush 300, 3) := by decide +kernel
theorem dX4_init_53 : decode cX4_init 53 = .ok (.newarray .boolean, 2) := by decide +kernel
theorem dX4_init_55 : decode cX4_init 55 = .ok (.putfield 28, 3) := by decide +kernel
theorem dX4_init_58 : decode cX4_init 58 = .ok (.aload_n 0, 1) := by decide +kernel
theorem dX4_init_59 : decode cX4_init 59 = .ok (.aload_n 1, 1) := by decide +kernel
theorem dX4_init_60 : decode cX4_init 60 = .ok (.putfield 31, 3) := by decide +kernel
theorem dX4_init_63 : decode cX4_init 63 = .ok (.aload_n 0, 1) := by decide +kernel
theorem dX4_init_64 : decode cX4_init 64 = .ok (.aload_n 2, 1) := by decide +kernel
theorem dX4_init_65 : decode cX4_init 65 = .ok (.putfield 35, 3) := by decide +kernel
theorem dX4_init_68 : decode cX4_init 68 = .ok (.return_, 1) := by decide +kernel
theorem dX4_has_0 : decode cX4_has 0 = .ok (.iload_n 1, 1) := by decide +kernel
theorem dX4_has_1 : decode cX4_has 1 = .ok (.ifCond .lt 15, 3) := by decide +kernel
theorem dX4_has_4 : decode cX4_has 4 = .ok (.iload_n 1, 1) := by decide +kernel
theorem dX4_has_5 : decode cX4_has 5 = .ok (.aload_n 0, 1) := by decide +kernel
theorem dX4_has_6 : decode cX4_has 6 = .ok (.getfield 39, 3) := by decide +kernel
theorem dX4_has_9 : decode cX4_has 9 = .ok (.if_icmp .ge 7, 3) := by decide +kernel
theorem dX4_has_12 : decode cX4_has 12 = .ok (.iconst 1, 1) := by decide +kernel
theorem dX4_has_13 : decode cX4_has 13 = .ok (.goto 4, 3) := by decide +kernel
theorem dX4_has_16 : decode cX4_has 16 = .ok (.iconst 0, 1) := by decide +kernel
theorem dX4_has_17 : decode cX4_has 17 = .ok (.ireturn, 1) := by decide +kernel
theorem dX4_enter_0 : decode cX4_enter 0 = .ok (.aload_n 0, 1) := by decide +kernel
theorem dX4_enter_1 : decode cX4_enter 1 = .ok (.getfield 9, 3) := by decide +kernel
theorem dX4_enter_4 : decode cX4_enter 4 = .ok (.aload_n 0, 1) := by decide +kernel
theorem dX4_enter_5 : decode cX4_enter 5 = .ok (.getfield 39, 3) := by decide +kernel
theorem dX4_enter_8 : decode cX4_enter 8 = .ok (.iload_n 1, 1) := by decide +kernel
theorem dX4_enter_9 : decode cX4_enter 9 = .ok (.iastore, 1) := by decide +kernel
theorem dX4_enter_10 : decode cX4_enter 10 = .ok (.aload_n 0, 1) := by decide +kernel
theorem dX4_enter_11 : decode cX4_enter 11 = .ok (.getfield 22, 3) := by decide +kernel
theorem dX4_enter_14 : decode cX4_enter 14 = .ok (.aload_n 0, 1) := by decide +kernel
theorem dX4_enter_15 : decode cX4_enter 15 = .ok (.getfield 39, 3) := by decide +kernel
theorem dX4_enter_18 : decode cX4_enter 18 = .ok (.iload_n 2, 1) := by decide +kernel
theorem dX4_enter_19 : decode cX4_enter 19 = .ok (.iastore, 1) := by decide +kernel
theorem dX4_enter_20 : decode cX4_enter 20 = .ok (.aload_n 0, 1) := by decide +kernel
theorem dX4_enter_21 : decode cX4_enter 21 = .ok (.getfield 25, 3) := by decide +kernel
theorem dX4_enter_24 : decode cX4_enter 24 = .ok (.aload_n 0, 1) := by decide +kernel
theorem dX4_enter_25 : decode cX4_enter 25 = .ok (.getfield 39, 3) := by decide +kernel
theorem dX4_enter_28 : decode cX4_enter 28 = .ok (.iload_n 3, 1) := by decide +kernel
theorem dX4_enter_29 : decode cX4_enter 29 = .ok (.iastore, 1) := by decide +kernel
theorem dX4_enter_30 : decode cX4_enter 30 = .ok (.aload_n 0, 1) := by decide +kernel
theorem dX4_enter_31 : decode cX4_enter 31 = .ok (.getfield 15, 3) := by decide +kernel
theorem dX4_enter_34 : decode cX4_enter 34 = .ok (.aload_n 0, 1) := by decide +kernel
theorem dX4_enter_35 : decode cX4_enter 35 = .ok (.getfield 39, 3) := by decide +kernel
theorem dX4_enter_38 : decode cX4_enter 38 = .ok (.iload 4, 2) := by decide +kernel
theorem dX4_enter_40 : decode cX4_enter 40 = .ok (.bastore, 1) := by decide +kernel
theorem dX4_enter_41 : decode cX4_enter 41 = .ok (.aload_n 0, 1) := by decide +kernel
theorem dX4_enter_42 : decode cX4_enter 42 = .ok (.dup, 1) := by decide +kernel
theorem dX4_enter_43 : decode cX4_enter 43 = .ok (.getfield 39, 3) := by decide +kernel
theorem dX4_enter_46 : decode cX4_enter 46 = .ok (.iconst 1, 1) := by decide +kernel
theorem dX4_enter_47 : decode cX4_enter 47 = .ok (.iadd, 1) := by decide +kernel
theorem dX4_enter_48 : decode cX4_enter 48 = .ok (.putfield 39, 3) := by decide +kernel
theorem dX4_enter_51 : decode cX4_enter 51 = .ok (.aload_n 0, 1) := by decide +kernel
theorem dX4_enter_52 : decode cX4_enter 52 = .ok (.aload_n 0, 1) := by decide +kernel
theorem dX4_enter_53 : decode cX4_enter 53 = .ok (.getfield 31, 3) := by decide +kernel
theorem dX4_enter_56 : decode cX4_enter 56 = .ok (.iload_n 2, 1) := by decide +kernel
theorem dX4_enter_57 : decode cX4_enter 57 = .ok (.invokevirtual 43, 3) := by decide +kernel
theorem dX4_enter_60 : decode cX4_enter 60 = .ok (.invokevirtual 49, 3) := by decide +kernel
theorem dX4_enter_63 : decode cX4_enter 63 = .ok (.aload_n 0, 1) := by decide +kernel
theorem dX4_enter_64 : decode cX4_enter 64 = .ok (.getfield 39, 3) := by decide +kernel
theorem dX4_enter_67 : decode cX4_enter 67 = .ok (.iconst 1, 1) := by decide +kernel
theorem dX4_enter_68 : decode cX4_enter 68 = .ok (.isub, 1) := by decide +kernel
theorem dX4_enter_69 : decode cX4_enter 69 = .ok (.ireturn, 1) := by decide +kernel
theorem dX4_recount_0 : decode cX4_recount 0 = .ok (.aload_n 1, 1) := by decide +kernel
theorem dX4_recount_1 : decode cX4_recount 1 = .ok (.ifnonnull 4, 3) := by decide +kernel
theorem dX4_recount_4 : decode cX4_recount 4 = .ok (.return_, 1) := by decide +kernel
theorem dX4_recount_5 : decode cX4_recount 5 = .ok (.aload_n 1, 1) := by decide +kernel
theorem dX4_recount_6 : decode cX4_recount 6 = .ok (.iconst 0, 1) := by decide +kernel
theorem dX4_recount_7 : decode cX4_recount 7 = .ok (.putfield 53, 3) := by decide +kernel
theorem dX4_recount_10 : decode cX4_recount 10 = .ok (.aload_n 1, 1) := by decide +kernel
theorem dX4_recount_11 : decode cX4_recount 11 = .ok (.iconst 0, 1) := by decide +kernel
theorem dX4_recount_12 : decode cX4_recount 12 = .ok (.putfield 58, 3) := by decide +kernel
theorem dX4_recount_15 : decode cX4_recount 15 = .ok (.aload_n 1, 1) := by decide +kernel
theorem dX4_recount_16 : decode cX4_recount 16 = .ok (.iconst (-1), 1) := by decide +kernel
theorem dX4_recount_17 : decode cX4_recount 17 = .ok (.putfield 61, 3) := by decide +kernel
theorem dX4_recount_20 : decode cX4_recount 20 = .ok (.iconst 0, 1) := by decide +kernel
theorem dX4_recount_21 : decode cX4_recount 21 = .ok (.istore_n 2, 1) := by decide +kernel
theorem dX4_recount_22 : decode cX4_recount 22 = .ok (.iload_n 2, 1) := by decide +kernel
theorem dX4_recount_23 : decode cX4_recount 23 = .ok (.aload_n 0, 1) := by decide +kernel
theorem dX4_recount_24 : decode cX4_recount 24 = .ok (.getfield 39, 3) := by decide +kernel
theorem dX4_recount_27 : decode cX4_recount 27 = .ok (.if_icmp .ge 72, 3) := by decide +kernel
theorem dX4_recount_30 : decode cX4_recount 30 = .ok (.aload_n 0, 1) := by decide +kernel
theorem dX4_recount_31 : decode cX4_recount 31 = .ok (.getfield 22, 3) := by decide +kernel
theorem dX4_recount_34 : decode cX4_recount 34 = .ok (.iload_n 2, 1) := by decide +kernel
theorem dX4_recount_35 : decode cX4_recount 35 = .ok (.iaload, 1) := by decide +kernel
theorem dX4_recount_36 : decode cX4_recount 36 = .ok (.aload_n 1, 1) := by decide +kernel
theorem dX4_recount_37 : decode cX4_recount 37 = .ok (.getfield 64, 3) := by decide +kernel
theorem dX4_recount_40 : decode cX4_recount 40 = .ok (.if_icmp .ne 53, 3) := by decide +kernel
theorem dX4_recount_43 : decode cX4_recount 43 = .ok (.aload_n 0, 1) := by decide +kernel
theorem dX4_recount_44 : decode cX4_recount 44 = .ok (.getfield 15, 3) := by decide +kernel
theorem dX4_recount_47 : decode cX4_recount 47 = .ok (.iload_n 2, 1) := by decide +kernel
theorem dX4_recount_48 : decode cX4_recount 48 = .ok (.baload, 1) := by decide +kernel
theorem dX4_recount_49 : decode cX4_recount 49 = .ok (.ifCond .eq 44, 3) := by decide +kernel
theorem dX4_recount_52 : decode cX4_recount 52 = .ok (.aload_n 1, 1) := by decide +kernel
theorem dX4_recount_53 : decode cX4_recount 53 = .ok (.dup, 1) := by decide +kernel
theorem dX4_recount_54 : decode cX4_recount 54 = .ok (.getfield 53, 3) := by decide +kernel
theorem dX4_recount_57 : decode cX4_recount 57 = .ok (.iconst 1, 1) := by decide +kernel
theorem dX4_recount_58 : decode cX4_recount 58 = .ok (.iadd, 1) := by decide +kernel
theorem dX4_recount_59 : decode cX4_recount 59 = .ok (.putfield 53, 3) := by decide +kernel
theorem dX4_recount_62 : decode cX4_recount 62 = .ok (.aload_n 1, 1) := by decide +kernel
theorem dX4_recount_63 : decode cX4_recount 63 = .ok (.aload_n 1, 1) := by decide +kernel
theorem dX4_recount_64 : decode cX4_recount 64 = .ok (.getfield 61, 3) := by decide +kernel
theorem dX4_recount_67 : decode cX4_recount 67 = .ok (.ifCond .lt 15, 3) := by decide +kernel
theorem dX4_recount_70 : decode cX4_recount 70 = .ok (.aload_n 0, 1) := by decide +kernel
theorem dX4_recount_71 : decode cX4_recount 71 = .ok (.iload_n 2, 1) := by decide +kernel
theorem dX4_recount_72 : decode cX4_recount 72 = .ok (.aload_n 1, 1) := by decide +kernel
theorem dX4_recount_73 : decode cX4_recount 73 = .ok (.getfield 61, 3) := by decide +kernel
theorem dX4_recount_76 : decode cX4_recount 76 = .ok (.invokevirtual 67, 3) := by decide +kernel
theorem dX4_recount_79 : decode cX4_recount 79 = .ok (.ifCond .eq 7, 3) := by decide +kernel
theorem dX4_recount_82 : decode cX4_recount 82 = .ok (.iload_n 2, 1) := by decide +kernel
theorem dX4_recount_83 : decode cX4_recount 83 = .ok (.goto 7, 3) := by decide +kernel
theorem dX4_recount_86 : decode cX4_recount 86 = .ok (.aload_n 1, 1) := by decide +kernel
theorem dX4_recount_87 : decode cX4_recount 87 = .ok (.getfield 61, 3) := by decide +kernel
theorem dX4_recount_90 : decode cX4_recount 90 = .ok (.putfield 61, 3) := by decide +kernel
theorem dX4_recount_93 : decode cX4_recount 93 = .ok (.iinc 2 1, 3) := by decide +kernel
theorem dX4_recount_96 : decode cX4_recount 96 = .ok (.goto (-74), 3) := by decide +kernel
theorem dX4_recount_99 : decode cX4_recount 99 = .ok (.iconst 0, 1) := by decide +kernel
theorem dX4_recount_100 : decode cX4_recount 100 = .ok (.istore_n 2, 1) := by decide +kernel
theorem dX4_recount_101 : decode cX4_recount 101 = .ok (.iload_n 2, 1) := by decide +kernel
theorem dX4_recount_102 : decode cX4_recount 102 = .ok (.aload_n 0, 1) := by decide +kernel
theorem dX4_recount_103 : decode cX4_recount 103 = .ok (.getfield 39, 3) := by decide +kernel
theorem dX4_recount_106 : decode cX4_recount 106 = .ok (.if_icmp .ge 32, 3) := by decide +kernel
theorem dX4_recount_109 : decode cX4_recount 109 = .ok (.aload_n 1, 1) := by decide +kernel
theorem dX4_recount_110 : decode cX4_recount 110 = .ok (.dup, 1) := by decide +kernel
theorem dX4_recount_111 : decode cX4_recount 111 = .ok (.getfield 58, 3) := by decide +kernel
theorem dX4_recount_114 : decode cX4_recount 114 = .ok (.aload_n 0, 1) := by decide +kernel
theorem dX4_recount_115 : decode cX4_recount 115 = .ok (.iload_n 2, 1) := by decide +kernel
theorem dX4_recount_116 : decode cX4_recount 116 = .ok (.aload_n 1, 1) := by decide +kernel
theorem dX4_recount_117 : decode cX4_recount 117 = .ok (.invokevirtual 71, 3) := by decide +kernel
theorem dX4_recount_120 : decode cX4_recount 120 = .ok (.ifCond .eq 7, 3) := by decide +kernel
theorem dX4_recount_123 : decode cX4_recount 123 = .ok (.iconst 1, 1) := by decide +kernel
theorem dX4_recount_124 : decode cX4_recount 124 = .ok (.goto 4, 3) := by decide +kernel
theorem dX4_recount_127 : decode cX4_recount 127 = .ok (.iconst 0, 1) := by decide +kernel
theorem dX4_recount_128 : decode cX4_recount 128 = .ok (.iadd, 1) := by decide +kernel
theorem dX4_recount_129 : decode cX4_recount 129 = .ok (.putfield 58, 3) := by decide +kernel
theorem dX4_recount_132 : decode cX4_recount 132 = .ok (.iinc 2 1, 3) := by decide +kernel
theorem dX4_recount_135 : decode cX4_recount 135 = .ok (.goto (-34), 3) := by decide +kernel
theorem dX4_recount_138 : decode cX4_recount 138 = .ok (.return_, 1) := by decide +kernel
theorem dX4_isMissBehindFound_0 : decode cX4_isMissBehindFound 0 = .ok (.aload_n 0, 1) := by decide +kernel
theorem dX4_isMissBehindFound_1 : decode cX4_isMissBehindFound 1 = .ok (.getfield 22, 3) := by decide +kernel
theorem dX4_isMissBehindFound_4 : decode cX4_isMissBehindFound 4 = .ok (.iload_n 1, 1) := by decide +kernel
theorem dX4_isMissBehindFound_5 : decode cX4_isMissBehindFound 5 = .ok (.iaload, 1) := by decide +kernel
theorem dX4_isMissBehindFound_6 : decode cX4_isMissBehindFound 6 = .ok (.aload_n 2, 1) := by decide +kernel
theorem dX4_isMissBehindFound_7 : decode cX4_isMissBehindFound 7 = .ok (.getfield 64, 3) := by decide +kernel
theorem dX4_isMissBehindFound_10 : decode cX4_isMissBehindFound 10 = .ok (.if_icmp .ne 35, 3) := by decide +kernel
theorem dX4_isMissBehindFound_13 : decode cX4_isMissBehindFound 13 = .ok (.aload_n 0, 1) := by decide +kernel
theorem dX4_isMissBehindFound_14 : decode cX4_isMissBehindFound 14 = .ok (.getfield 15, 3) := by decide +kernel
theorem dX4_isMissBehindFound_17 : decode cX4_isMissBehindFound 17 = .ok (.iload_n 1, 1) := by decide +kernel
theorem dX4_isMissBehindFound_18 : decode cX4_isMissBehindFound 18 = .ok (.baload, 1) := by decide +kernel
theorem dX4_isMissBehindFound_19 : decode cX4_isMissBehindFound 19 = .ok (.ifCond .ne 26, 3) := by decide +kernel
theorem dX4_isMissBehindFound_22 : decode cX4_isMissBehindFound 22 = .ok (.aload_n 2, 1) := by decide +kernel
theorem dX4_isMissBehindFound_23 : decode cX4_isMissBehindFound 23 = .ok (.getfield 61, 3) := by decide +kernel
theorem dX4_isMissBehindFound_26 : decode cX4_isMissBehindFound 26 = .ok (.ifCond .lt 15, 3) := by decide +kernel
theorem dX4_isMissBehindFound_29 : decode cX4_isMissBehindFound 29 = .ok (.aload_n 0, 1) := by decide +kernel
theorem dX4_isMissBehindFound_30 : decode cX4_isMissBehindFound 30 = .ok (.iload_n 1, 1) := by decide +kernel
theorem dX4_isMissBehindFound_31 : decode cX4_isMissBehindFound 31 = .ok (.aload_n 2, 1) := by decide +kernel
theorem dX4_isMissBehindFound_32 : decode cX4_isMissBehindFound 32 = .ok (.getfield 61, 3) := by decide +kernel
theorem dX4_isMissBehindFound_35 : decode cX4_isMissBehindFound 35 = .ok (.invokevirtual 67, 3) := by decide +kernel
theorem dX4_isMissBehindFound_38 : decode cX4_isMissBehindFound 38 = .ok (.ifCond .eq 7, 3) := by decide +kernel
theorem dX4_isMissBehindFound_41 : decode cX4_isMissBehindFound 41 = .ok (.iconst 1, 1) := by decide +kernel
theorem dX4_isMissBehindFound_42 : decode cX4_isMissBehindFound 42 = .ok (.goto 4, 3) := by decide +kernel
theorem dX4_isMissBehindFound_45 : decode cX4_isMissBehindFound 45 = .ok (.iconst 0, 1) := by decide +kernel
theorem dX4_isMissBehindFound_46 : decode cX4_isMissBehindFound 46 = .ok (.ireturn, 1) := by decide +kernel
theorem dX4_isBehind_0 : decode cX4_isBehind 0 = .ok (.aload_n 0, 1) := by decide +kernel
theorem dX4_isBehind_1 : decode cX4_isBehind 1 = .ok (.getfield 25, 3) := by decide +kernel
theorem dX4_isBehind_4 : decode cX4_isBehind 4 = .ok (.iload_n 1, 1) := by decide +kernel
theorem dX4_isBehind_5 : decode cX4_isBehind 5 = .ok (.iaload, 1) := by decide +kernel
theorem dX4_isBehind_6 : decode cX4_isBehind 6 = .ok (.aload_n 0, 1) := by decide +kernel
theorem dX4_isBehind_7 : decode cX4_isBehind 7 = .ok (.getfield 25, 3) := by decide +kernel
theorem dX4_isBehind_10 : decode cX4_isBehind 10 = .ok (.iload_n 2, 1) := by decide +kernel
theorem dX4_isBehind_11 : decode cX4_isBehind 11 = .ok (.iaload, 1) := by decide +kernel
theorem dX4_isBehind_12 : decode cX4_isBehind 12 = .ok (.if_icmp .gt 23, 3) := by decide +kernel
theorem dX4_isBehind_15 : decode cX4_isBehind 15 = .ok (.aload_n 0, 1) := by decide +kernel
theorem dX4_isBehind_16 : decode cX4_isBehind 16 = .ok (.getfield 25, 3) := by decide +kernel
theorem dX4_isBehind_19 : decode cX4_isBehind 19 = .ok (.iload_n 1, 1) := by decide +kernel
theorem dX4_isBehind_20 : decode cX4_isBehind 20 = .ok (.iaload, 1) := by decide +kernel
theorem dX4_isBehind_21 : decode cX4_isBehind 21 = .ok (.aload_n 0, 1) := by decide +kernel
theorem dX4_isBehind_22 : decode cX4_isBehind 22 = .ok (.getfield 25, 3) := by decide +kernel
theorem dX4_isBehind_25 : decode cX4_isBehind 25 = .ok (.iload_n 2, 1) := by decide +kernel
theorem dX4_isBehind_26 : decode cX4_isBehind 26 = .ok (.iaload, 1) := by decide +kernel
theorem dX4_isBehind_27 : decode cX4_isBehind 27 = .ok (.if_icmp .ne 12, 3) := by decide +kernel
theorem dX4_isBehind_30 : decode cX4_isBehind 30 = .ok (.iload_n 1, 1) := by decide +kernel
theorem dX4_isBehind_31 : decode cX4_isBehind 31 = .ok (.iload_n 2, 1) := by decide +kernel
theorem dX4_isBehind_32 : decode cX4_isBehind 32 = .ok (.if_icmp .le 7, 3) := by decide +kernel
theorem dX4_isBehind_35 : decode cX4_isBehind 35 = .ok (.iconst 1, 1) := by decide +kernel
theorem dX4_isBehind_36 : decode cX4_isBehind 36 = .ok (.goto 4, 3) := by decide +kernel
theorem dX4_isBehind_39 : decode cX4_isBehind 39 = .ok (.iconst 0, 1) := by decide +kernel
theorem dX4_isBehind_40 : decode cX4_isBehind 40 = .ok (.ireturn, 1) := by decide +kernel
theorem dX4_hasLogFrom_0 : decode cX4_hasLogFrom 0 = .ok (.iconst 0, 1) := by decide +kernel
theorem dX4_hasLogFrom_1 : decode cX4_hasLogFrom 1 = .ok (.istore_n 3, 1) := by decide +kernel
theorem dX4_hasLogFrom_2 : decode cX4_hasLogFrom 2 = .ok (.iload_n 3, 1) := by decide +kernel
theorem dX4_hasLogFrom_3 : decode cX4_hasLogFrom 3 = .ok (.aload_n 0, 1) := by decide +kernel
theorem dX4_hasLogFrom_4 : decode cX4_hasLogFrom 4 = .ok (.getfield 39, 3) := by decide +kernel
theorem dX4_hasLogFrom_7 : decode cX4_hasLogFrom 7 = .ok (.if_icmp .ge 31, 3) := by decide +kernel
theorem dX4_hasLogFrom_10 : decode cX4_hasLogFrom 10 = .ok (.aload_n 0, 1) := by decide +kernel
theorem dX4_hasLogFrom_11 : decode cX4_hasLogFrom 11 = .ok (.getfield 22, 3) := by decide +kernel
theorem dX4_hasLogFrom_14 : decode cX4_hasLogFrom 14 = .ok (.iload_n 3, 1) := by decide +kernel
theorem dX4_hasLogFrom_15 : decode cX4_hasLogFrom 15 = .ok (.iaload, 1) := by decide +kernel
theorem dX4_hasLogFrom_16 : decode cX4_hasLogFrom 16 = .ok (.iload_n 1, 1) := by decide +kernel
theorem dX4_hasLogFrom_17 : decode cX4_hasLogFrom 17 = .ok (.if_icmp .ne 15, 3) := by decide +kernel
theorem dX4_hasLogFrom_20 : decode cX4_hasLogFrom 20 = .ok (.aload_n 0, 1) := by decide +kernel
theorem dX4_hasLogFrom_21 : decode cX4_hasLogFrom 21 = .ok (.getfield 25, 3) := by decide +kernel
theorem dX4_hasLogFrom_24 : decode cX4_hasLogFrom 24 = .ok (.iload_n 3, 1) := by decide +kernel
theorem dX4_hasLogFrom_25 : decode cX4_hasLogFrom 25 = .ok (.iaload, 1) := by decide +kernel
theorem dX4_hasLogFrom_26 : decode cX4_hasLogFrom 26 = .ok (.iload_n 2, 1) := by decide +kernel
theorem dX4_hasLogFrom_27 : decode cX4_hasLogFrom 27 = .ok (.if_icmp .lt 5, 3) := by decide +kernel
theorem dX4_hasLogFrom_30 : decode cX4_hasLogFrom 30 = .ok (.iconst 1, 1) := by decide +kernel
theorem dX4_hasLogFrom_31 : decode cX4_hasLogFrom 31 = .ok (.ireturn, 1) := by decide +kernel
theorem dX4_hasLogFrom_32 : decode cX4_hasLogFrom 32 = .ok (.iinc 3 1, 3) := by decide +kernel
theorem dX4_hasLogFrom_35 : decode cX4_hasLogFrom 35 = .ok (.goto (-33), 3) := by decide +kernel
theorem dX4_hasLogFrom_38 : decode cX4_hasLogFrom 38 = .ok (.iconst 0, 1) := by decide +kernel
theorem dX4_hasLogFrom_39 : decode cX4_hasLogFrom 39 = .ok (.ireturn, 1) := by decide +kernel
theorem dX4_joinOf_0 : decode cX4_joinOf 0 = .ok (.aload_n 2, 1) := by decide +kernel
theorem dX4_joinOf_1 : decode cX4_joinOf 1 = .ok (.iload_n 1, 1) := by decide +kernel
theorem dX4_joinOf_2 : decode cX4_joinOf 2 = .ok (.invokevirtual 75, 3) := by decide +kernel
theorem dX4_joinOf_5 : decode cX4_joinOf 5 = .ok (.istore_n 3, 1) := by decide +kernel
theorem dX4_joinOf_6 : decode cX4_joinOf 6 = .ok (.iconst 0, 1) := by decide +kernel
theorem dX4_joinOf_7 : decode cX4_joinOf 7 = .ok (.istore 4, 2) := by decide +kernel
theorem dX4_joinOf_9 : decode cX4_joinOf 9 = .ok (.iload 4, 2) := by decide +kernel
theorem dX4_joinOf_11 : decode cX4_joinOf 11 = .ok (.aload_n 0, 1) := by decide +kernel
theorem dX4_joinOf_12 : decode cX4_joinOf 12 = .ok (.getfield 39, 3) := by decide +kernel
theorem dX4_joinOf_15 : decode cX4_joinOf 15 = .ok (.if_icmp .ge 54, 3) := by decide +kernel
theorem dX4_joinOf_18 : decode cX4_joinOf 18 = .ok (.aload_n 0, 1) := by decide +kernel
theorem dX4_joinOf_19 : decode cX4_joinOf 19 = .ok (.getfield 15, 3) := by decide +kernel
theorem dX4_joinOf_22 : decode cX4_joinOf 22 = .ok (.iload 4, 2) := by decide +kernel
theorem dX4_joinOf_24 : decode cX4_joinOf 24 = .ok (.baload, 1) := by decide +kernel
theorem dX4_joinOf_25 : decode cX4_joinOf 25 = .ok (.ifCond .eq 38, 3) := by decide +kernel
theorem dX4_joinOf_28 : decode cX4_joinOf 28 = .ok (.aload_n 0, 1) := by decide +kernel
theorem dX4_joinOf_29 : decode cX4_joinOf 29 = .ok (.getfield 9, 3) := by decide +kernel
theorem dX4_joinOf_32 : decode cX4_joinOf 32 = .ok (.iload 4, 2) := by decide +kernel
theorem dX4_joinOf_34 : decode cX4_joinOf 34 = .ok (.iaload, 1) := by decide +kernel
theorem dX4_joinOf_35 : decode cX4_joinOf 35 = .ok (.iload_n 1, 1) := by decide +kernel
theorem dX4_joinOf_36 : decode cX4_joinOf 36 = .ok (.if_icmp .ne 27, 3) := by decide +kernel
theorem dX4_joinOf_39 : decode cX4_joinOf 39 = .ok (.aload_n 0, 1) := by decide +kernel
theorem dX4_joinOf_40 : decode cX4_joinOf 40 = .ok (.getfield 22, 3) := by decide +kernel
theorem dX4_joinOf_43 : decode cX4_joinOf 43 = .ok (.iload 4, 2) := by decide +kernel
theorem dX4_joinOf_45 : decode cX4_joinOf 45 = .ok (.iaload, 1) := by decide +kernel
theorem dX4_joinOf_46 : decode cX4_joinOf 46 = .ok (.aload_n 2, 1) := by decide +kernel
theorem dX4_joinOf_47 : decode cX4_joinOf 47 = .ok (.getfield 64, 3) := by decide +kernel
theorem dX4_joinOf_50 : decode cX4_joinOf 50 = .ok (.if_icmp .ne 13, 3) := by decide +kernel
theorem dX4_joinOf_53 : decode cX4_joinOf 53 = .ok (.iload_n 3, 1) := by decide +kernel
theorem dX4_joinOf_54 : decode cX4_joinOf 54 = .ok (.ifCond .eq 7, 3) := by decide +kernel
theorem dX4_joinOf_57 : decode cX4_joinOf 57 = .ok (.iconst 0, 1) := by decide +kernel
theorem dX4_joinOf_58 : decode cX4_joinOf 58 = .ok (.goto 4, 3) := by decide +kernel
theorem dX4_joinOf_61 : decode cX4_joinOf 61 = .ok (.iconst 1, 1) := by decide +kernel
theorem dX4_joinOf_62 : decode cX4_joinOf 62 = .ok (.ireturn, 1) := by decide +kernel
theorem dX4_joinOf_63 : decode cX4_joinOf 63 = .ok (.iinc 4 1, 3) := by decide +kernel
theorem dX4_joinOf_66 : decode cX4_joinOf 66 = .ok (.goto (-57), 3) := by decide +kernel
theorem dX4_joinOf_69 : decode cX4_joinOf 69 = .ok (.iload_n 3, 1) := by decide +kernel
theorem dX4_joinOf_70 : decode cX4_joinOf 70 = .ok (.ifCond .eq 7, 3) := by decide +kernel
theorem dX4_joinOf_73 : decode cX4_joinOf 73 = .ok (.iconst 2, 1) := by decide +kernel
theorem dX4_joinOf_74 : decode cX4_joinOf 74 = .ok (.goto 4, 3) := by decide +kernel
theorem dX4_joinOf_77 : decode cX4_joinOf 77 = .ok (.iconst (-1), 1) := by decide +kernel
theorem dX4_joinOf_78 : decode cX4_joinOf 78 = .ok (.ireturn, 1) := by decide +kernel
theorem dX4_firstThatCounts_0 : decode cX4_firstThatCounts 0 = .ok (.iconst (-1), 1) := by decide +kernel
theorem dX4_firstThatCounts_1 : decode cX4_firstThatCounts 1 = .ok (.istore_n 2, 1) := by decide +kernel
theorem dX4_firstThatCounts_2 : decode cX4_firstThatCounts 2 = .ok (.iconst 0, 1) := by decide +kernel
theorem dX4_firstThatCounts_3 : decode cX4_firstThatCounts 3 = .ok (.istore_n 3, 1) := by decide +kernel
theorem dX4_firstThatCounts_4 : decode cX4_firstThatCounts 4 = .ok (.iload_n 3, 1) := by decide +kernel
theorem dX4_firstThatCounts_5 : decode cX4_firstThatCounts 5 = .ok (.aload_n 0, 1) := by decide +kernel
theorem dX4_firstThatCounts_6 : decode cX4_firstThatCounts 6 = .ok (.getfield 39, 3) := by decide +kernel
theorem dX4_firstThatCounts_9 : decode cX4_firstThatCounts 9 = .ok (.if_icmp .ge 79, 3) := by decide +kernel
theorem dX4_firstThatCounts_12 : decode cX4_firstThatCounts 12 = .ok (.aload_n 0, 1) := by decide +kernel
theorem dX4_firstThatCounts_13 : decode cX4_firstThatCounts 13 = .ok (.getfield 22, 3) := by decide +kernel
theorem dX4_firstThatCounts_16 : decode cX4_firstThatCounts 16 = .ok (.iload_n 3, 1) := by decide +kernel
theorem dX4_firstThatCounts_17 : decode cX4_firstThatCounts 17 = .ok (.iaload, 1) := by decide +kernel
theorem dX4_firstThatCounts_18 : decode cX4_firstThatCounts 18 = .ok (.iload_n 1, 1) := by decide +kernel
theorem dX4_firstThatCounts_19 : decode cX4_firstThatCounts 19 = .ok (.if_icmp .ne 29, 3) := by decide +kernel
theorem dX4_firstThatCounts_22 : decode cX4_firstThatCounts 22 = .ok (.aload_n 0, 1) := by decide +kernel
theorem dX4_firstThatCounts_23 : decode cX4_firstThatCounts 23 = .ok (.getfield 15, 3) := by decide +kernel
theorem dX4_firstThatCounts_26 : decode cX4_firstThatCounts 26 = .ok (.iload_n 3, 1) := by decide +kernel
theorem dX4_firstThatCounts_27 : decode cX4_firstThatCounts 27 = .ok (.baload, 1) := by decide +kernel
theorem dX4_firstThatCounts_28 : decode cX4_firstThatCounts 28 = .ok (.ifCond .eq 20, 3) := by decide +kernel
theorem dX4_firstThatCounts_31 : decode cX4_firstThatCounts 31 = .ok (.iload_n 2, 1) := by decide +kernel
theorem dX4_firstThatCounts_32 : decode cX4_firstThatCounts 32 = .ok (.ifCond .lt 12, 3) := by decide +kernel
theorem dX4_firstThatCounts_35 : decode cX4_firstThatCounts 35 = .ok (.aload_n 0, 1) := by decide +kernel
theorem dX4_firstThatCounts_36 : decode cX4_firstThatCounts 36 = .ok (.iload_n 2, 1) := by decide +kernel
theorem dX4_firstThatCounts_37 : decode cX4_firstThatCounts 37 = .ok (.iload_n 3, 1) := by decide +kernel
theorem dX4_firstThatCounts_38 : decode cX4_firstThatCounts 38 = .ok (.invokevirtual 67, 3) := by decide +kernel
theorem dX4_firstThatCounts_41 : decode cX4_firstThatCounts 41 = .ok (.ifCond .eq 7, 3) := by decide +kernel
theorem dX4_firstThatCounts_44 : decode cX4_firstThatCounts 44 = .ok (.iconst 1, 1) := by decide +kernel
theorem dX4_firstThatCounts_45 : decode cX4_firstThatCounts 45 = .ok (.goto 4, 3) := by decide +kernel
theorem dX4_firstThatCounts_48 : decode cX4_firstThatCounts 48 = .ok (.iconst 0, 1) := by decide +kernel
theorem dX4_firstThatCounts_49 : decode cX4_firstThatCounts 49 = .ok (.istore 4, 2) := by decide +kernel
theorem dX4_firstThatCounts_51 : decode cX4_firstThatCounts 51 = .ok (.iload 4, 2) := by decide +kernel
theorem dX4_firstThatCounts_53 : decode cX4_firstThatCounts 53 = .ok (.ifCond .eq 29, 3) := by decide +kernel
theorem dX4_firstThatCounts_56 : decode cX4_firstThatCounts 56 = .ok (.aload_n 0, 1) := by decide +kernel
theorem dX4_firstThatCounts_57 : decode cX4_firstThatCounts 57 = .ok (.getfield 35, 3) := by decide +kernel
theorem dX4_firstThatCounts_60 : decode cX4_firstThatCounts 60 = .ok (.aload_n 0, 1) := by decide +kernel
theorem dX4_firstThatCounts_61 : decode cX4_firstThatCounts 61 = .ok (.getfield 9, 3) := by decide +kernel
theorem dX4_firstThatCounts_64 : decode cX4_firstThatCounts 64 = .ok (.iload_n 3, 1) := by decide +kernel
theorem dX4_firstThatCounts_65 : decode cX4_firstThatCounts 65 = .ok (.iaload, 1) := by decide +kernel
theorem dX4_firstThatCounts_66 : decode cX4_firstThatCounts 66 = .ok (.iload_n 1, 1) := by decide +kernel
theorem dX4_firstThatCounts_67 : decode cX4_firstThatCounts 67 = .ok (.aload_n 0, 1) := by decide +kernel
theorem dX4_firstThatCounts_68 : decode cX4_firstThatCounts 68 = .ok (.getfield 25, 3) := by decide +kernel
theorem dX4_firstThatCounts_71 : decode cX4_firstThatCounts 71 = .ok (.iload_n 3, 1) := by decide +kernel
theorem dX4_firstThatCounts_72 : decode cX4_firstThatCounts 72 = .ok (.iaload, 1) := by decide +kernel
theorem dX4_firstThatCounts_73 : decode cX4_firstThatCounts 73 = .ok (.iconst (-1), 1) := by decide +kernel
theorem dX4_firstThatCounts_74 : decode cX4_firstThatCounts 74 = .ok (.invokevirtual 79, 3) := by decide +kernel
theorem dX4_firstThatCounts_77 : decode cX4_firstThatCounts 77 = .ok (.ifCond .eq 5, 3) := by decide +kernel
theorem dX4_firstThatCounts_80 : decode cX4_firstThatCounts 80 = .ok (.iload_n 3, 1) := by decide +kernel
theorem dX4_firstThatCounts_81 : decode cX4_firstThatCounts 81 = .ok (.istore_n 2, 1) := by decide +kernel
theorem dX4_firstThatCounts_82 : decode cX4_firstThatCounts 82 = .ok (.iinc 3 1, 3) := by decide +kernel
theorem dX4_firstThatCounts_85 : decode cX4_firstThatCounts 85 = .ok (.goto (-81), 3) := by decide +kernel
theorem dX4_firstThatCounts_88 : decode cX4_firstThatCounts 88 = .ok (.iload_n 2, 1) := by decide +kernel
theorem dX4_firstThatCounts_89 : decode cX4_firstThatCounts 89 = .ok (.ireturn, 1) := by decide +kernel
theorem dX4_placeOfBox_0 : decode cX4_placeOfBox 0 = .ok (.aload_n 0, 1) := by decide +kernel
theorem dX4_placeOfBox_1 : decode cX4_placeOfBox 1 = .ok (.iload_n 1, 1) := by decide +kernel
theorem dX4_placeOfBox_2 : decode cX4_placeOfBox 2 = .ok (.invokevirtual 85, 3) := by decide +kernel
theorem dX4_placeOfBox_5 : decode cX4_placeOfBox 5 = .ok (.ifCond .eq 32, 3) := by decide +kernel
theorem dX4_placeOfBox_8 : decode cX4_placeOfBox 8 = .ok (.aload_n 0, 1) := by decide +kernel
theorem dX4_placeOfBox_9 : decode cX4_placeOfBox 9 = .ok (.getfield 31, 3) := by decide +kernel
theorem dX4_placeOfBox_12 : decode cX4_placeOfBox 12 = .ok (.aload_n 0, 1) := by decide +kernel
theorem dX4_placeOfBox_13 : decode cX4_placeOfBox 13 = .ok (.getfield 31, 3) := by decide +kernel
theorem dX4_placeOfBox_16 : decode cX4_placeOfBox 16 = .ok (.aload_n 0, 1) := by decide +kernel
theorem dX4_placeOfBox_17 : decode cX4_placeOfBox 17 = .ok (.getfield 22, 3) := by decide +kernel
theorem dX4_placeOfBox_20 : decode cX4_placeOfBox 20 = .ok (.iload_n 1, 1) := by decide +kernel
theorem dX4_placeOfBox_21 : decode cX4_placeOfBox 21 = .ok (.iaload, 1) := by decide +kernel
theorem dX4_placeOfBox_22 : decode cX4_placeOfBox 22 = .ok (.invokevirtual 43, 3) := by decide +kernel
theorem dX4_placeOfBox_25 : decode cX4_placeOfBox 25 = .ok (.aload_n 0, 1) := by decide +kernel
theorem dX4_placeOfBox_26 : decode cX4_placeOfBox 26 = .ok (.getfield 25, 3) := by decide +kernel
theorem dX4_placeOfBox_29 : decode cX4_placeOfBox 29 = .ok (.iload_n 1, 1) := by decide +kernel
theorem dX4_placeOfBox_30 : decode cX4_placeOfBox 30 = .ok (.iaload, 1) := by decide +kernel
theorem dX4_placeOfBox_31 : decode cX4_placeOfBox 31 = .ok (.invokevirtual 88, 3) := by decide +kernel
theorem dX4_placeOfBox_34 : decode cX4_placeOfBox 34 = .ok (.goto 4, 3) := by decide +kernel
theorem dX4_placeOfBox_37 : decode cX4_placeOfBox 37 = .ok (.iconst (-1), 1) := by decide +kernel
theorem dX4_placeOfBox_38 : decode cX4_placeOfBox 38 = .ok (.ireturn, 1) := by decide +kernel
theorem dX4_whyFalse_0 : decode cX4_whyFalse 0 = .ok (.aload_n 0, 1) := by decide +kernel
theorem dX4_whyFalse_1 : decode cX4_whyFalse 1 = .ok (.getfield 31, 3) := by decide +kernel
theorem dX4_whyFalse_4 : decode cX4_whyFalse 4 = .ok (.aload_n 0, 1) := by decide +kernel
theorem dX4_whyFalse_5 : decode cX4_whyFalse 5 = .ok (.getfield 22, 3) := by decide +kernel
theorem dX4_whyFalse_8 : decode cX4_whyFalse 8 = .ok (.iload_n 1, 1) := by decide +kernel
theorem dX4_whyFalse_9 : decode cX4_whyFalse 9 = .ok (.iaload, 1) := by decide +kernel
theorem dX4_whyFalse_10 : decode cX4_whyFalse 10 = .ok (.invokevirtual 43, 3) := by decide +kernel
theorem dX4_whyFalse_13 : decode cX4_whyFalse 13 = .ok (.astore_n 2, 1) := by decide +kernel
theorem dX4_whyFalse_14 : decode cX4_whyFalse 14 = .ok (.aload_n 0, 1) := by decide +kernel
theorem dX4_whyFalse_15 : decode cX4_whyFalse 15 = .ok (.getfield 15, 3) := by decide +kernel
theorem dX4_whyFalse_18 : decode cX4_whyFalse 18 = .ok (.iload_n 1, 1) := by decide +kernel
theorem dX4_whyFalse_19 : decode cX4_whyFalse 19 = .ok (.baload, 1) := by decide +kernel
theorem dX4_whyFalse_20 : decode cX4_whyFalse 20 = .ok (.ifCond .eq 7, 3) := by decide +kernel
theorem dX4_whyFalse_23 : decode cX4_whyFalse 23 = .ok (.aload_n 2, 1) := by decide +kernel
theorem dX4_whyFalse_24 : decode cX4_whyFalse 24 = .ok (.ifnonnull 5, 3) := by decide +kernel
theorem dX4_whyFalse_27 : decode cX4_whyFalse 27 = .ok (.iconst 0, 1) := by decide +kernel
theorem dX4_whyFalse_28 : decode cX4_whyFalse 28 = .ok (.ireturn, 1) := by decide +kernel
theorem dX4_whyFalse_29 : decode cX4_whyFalse 29 = .ok (.aload_n 0, 1) := by decide +kernel
theorem dX4_whyFalse_30 : decode cX4_whyFalse 30 = .ok (.iload_n 1, 1) := by decide +kernel
theorem dX4_whyFalse_31 : decode cX4_whyFalse 31 = .ok (.invokevirtual 92, 3) := by decide +kernel
theorem dX4_whyFalse_34 : decode cX4_whyFalse 34 = .ok (.ifCond .ge 5, 3) := by decide +kernel
theorem dX4_whyFalse_37 : decode cX4_whyFalse 37 = .ok (.iconst 1, 1) := by decide +kernel
theorem dX4_whyFalse_38 : decode cX4_whyFalse 38 = .ok (.ireturn, 1) := by decide +kernel
theorem dX4_whyFalse_39 : decode cX4_whyFalse 39 = .ok (.aload_n 0, 1) := by decide +kernel
theorem dX4_whyFalse_40 : decode cX4_whyFalse 40 = .ok (.iload_n 1, 1) := by decide +kernel
theorem dX4_whyFalse_41 : decode cX4_whyFalse 41 = .ok (.invokevirtual 96, 3) := by decide +kernel
theorem dX4_whyFalse_44 : decode cX4_whyFalse 44 = .ok (.ifCond .lt 5, 3) := by decide +kernel
theorem dX4_whyFalse_47 : decode cX4_whyFalse 47 = .ok (.iconst 2, 1) := by decide +kernel
theorem dX4_whyFalse_48 : decode cX4_whyFalse 48 = .ok (.ireturn, 1) := by decide +kernel
theorem dX4_whyFalse_49 : decode cX4_whyFalse 49 = .ok (.aload_n 2, 1) := by decide +kernel
theorem dX4_whyFalse_50 : decode cX4_whyFalse 50 = .ok (.getfield 99, 3) := by decide +kernel
theorem dX4_whyFalse_53 : decode cX4_whyFalse 53 = .ok (.iconst 5, 1) := by decide +kernel
theorem dX4_whyFalse_54 : decode cX4_whyFalse 54 = .ok (.if_icmp .ne 20, 3) := by decide +kernel
theorem dX4_whyFalse_57 : decode cX4_whyFalse 57 = .ok (.aload_n 0, 1) := by decide +kernel
theorem dX4_whyFalse_58 : decode cX4_whyFalse 58 = .ok (.getfield 25, 3) := by decide +kernel
theorem dX4_whyFalse_61 : decode cX4_whyFalse 61 = .ok (.iload_n 1, 1) := by decide +kernel
theorem dX4_whyFalse_62 : decode cX4_whyFalse 62 = .ok (.iaload, 1) := by decide +kernel
theorem dX4_whyFalse_63 : decode cX4_whyFalse 63 = .ok (.bipush 24, 2) := by decide +kernel
theorem dX4_whyFalse_65 : decode cX4_whyFalse 65 = .ok (.irem, 1) := by decide +kernel
theorem dX4_whyFalse_66 : decode cX4_whyFalse 66 = .ok (.invokestatic 102, 3) := by decide +kernel
theorem dX4_whyFalse_69 : decode cX4_whyFalse 69 = .ok (.ifCond .ne 5, 3) := by decide +kernel
theorem dX4_whyFalse_72 : decode cX4_whyFalse 72 = .ok (.iconst 3, 1) := by decide +kernel
theorem dX4_whyFalse_73 : decode cX4_whyFalse 73 = .ok (.ireturn, 1) := by decide +kernel
theorem dX4_whyFalse_74 : decode cX4_whyFalse 74 = .ok (.aload_n 2, 1) := by decide +kernel
theorem dX4_whyFalse_75 : decode cX4_whyFalse 75 = .ok (.getfield 105, 3) := by decide +kernel
theorem dX4_whyFalse_78 : decode cX4_whyFalse 78 = .ok (.ifCond .eq 20, 3) := by decide +kernel
theorem dX4_whyFalse_81 : decode cX4_whyFalse 81 = .ok (.aload_n 2, 1) := by decide +kernel
theorem dX4_whyFalse_82 : decode cX4_whyFalse 82 = .ok (.aload_n 0, 1) := by decide +kernel
theorem dX4_whyFalse_83 : decode cX4_whyFalse 83 = .ok (.getfield 9, 3) := by decide +kernel
theorem dX4_whyFalse_86 : decode cX4_whyFalse 86 = .ok (.iload_n 1, 1) := by decide +kernel
theorem dX4_whyFalse_87 : decode cX4_whyFalse 87 = .ok (.iaload, 1) := by decide +kernel
theorem dX4_whyFalse_88 : decode cX4_whyFalse 88 = .ok (.invokevirtual 75, 3) := by decide +kernel
theorem dX4_whyFalse_91 : decode cX4_whyFalse 91 = .ok (.ifCond .ne 7, 3) := by decide +kernel
theorem dX4_whyFalse_94 : decode cX4_whyFalse 94 = .ok (.iconst 1, 1) := by decide +kernel
theorem dX4_whyFalse_95 : decode cX4_whyFalse 95 = .ok (.goto 4, 3) := by decide +kernel
theorem dX4_whyFalse_98 : decode cX4_whyFalse 98 = .ok (.iconst 0, 1) := by decide +kernel
theorem dX4_whyFalse_99 : decode cX4_whyFalse 99 = .ok (.istore_n 3, 1) := by decide +kernel
theorem dX4_whyFalse_100 : decode cX4_whyFalse 100 = .ok (.iload_n 3, 1) := by decide +kernel
theorem dX4_whyFalse_101 : decode cX4_whyFalse 101 = .ok (.ifCond .eq 15, 3) := by decide +kernel
theorem dX4_whyFalse_104 : decode cX4_whyFalse 104 = .ok (.aload_n 0, 1) := by decide +kernel
theorem dX4_whyFalse_105 : decode cX4_whyFalse 105 = .ok (.iload_n 1, 1) := by decide +kernel
theorem dX4_whyFalse_106 : decode cX4_whyFalse 106 = .ok (.invokevirtual 109, 3) := by decide +kernel
theorem dX4_whyFalse_109 : decode cX4_whyFalse 109 = .ok (.ifCond .eq 7, 3) := by decide +kernel
theorem dX4_whyFalse_112 : decode cX4_whyFalse 112 = .ok (.iconst 4, 1) := by decide +kernel
theorem dX4_whyFalse_113 : decode cX4_whyFalse 113 = .ok (.goto 4, 3) := by decide +kernel
theorem dX4_whyFalse_116 : decode cX4_whyFalse 116 = .ok (.iconst 0, 1) := by decide +kernel
theorem dX4_whyFalse_117 : decode cX4_whyFalse 117 = .ok (.ireturn, 1) := by decide +kernel
theorem dX4_tooSoonBy_0 : decode cX4_tooSoonBy 0 = .ok (.aload_n 0, 1) := by decide +kernel
theorem dX4_tooSoonBy_1 : decode cX4_tooSoonBy 1 = .ok (.iload_n 1, 1) := by decide +kernel
theorem dX4_tooSoonBy_2 : decode cX4_tooSoonBy 2 = .ok (.invokevirtual 92, 3) := by decide +kernel
theorem dX4_tooSoonBy_5 : decode cX4_tooSoonBy 5 = .ok (.istore_n 2, 1) := by decide +kernel
theorem dX4_tooSoonBy_6 : decode cX4_tooSoonBy 6 = .ok (.iconst 0, 1) := by decide +kernel
theorem dX4_tooSoonBy_7 : decode cX4_tooSoonBy 7 = .ok (.istore_n 3, 1) := by decide +kernel
theorem dX4_tooSoonBy_8 : decode cX4_tooSoonBy 8 = .ok (.iload_n 2, 1) := by decide +kernel
theorem dX4_tooSoonBy_9 : decode cX4_tooSoonBy 9 = .ok (.ifCond .lt 85, 3) := by decide +kernel
theorem dX4_tooSoonBy_12 : decode cX4_tooSoonBy 12 = .ok (.iload_n 3, 1) := by decide +kernel
theorem dX4_tooSoonBy_13 : decode cX4_tooSoonBy 13 = .ok (.aload_n 0, 1) := by decide +kernel
theorem dX4_tooSoonBy_14 : decode cX4_tooSoonBy 14 = .ok (.getfield 39, 3) := by decide +kernel
theorem dX4_tooSoonBy_17 : decode cX4_tooSoonBy 17 = .ok (.if_icmp .ge 77, 3) := by decide +kernel
theorem dX4_tooSoonBy_20 : decode cX4_tooSoonBy 20 = .ok (.iload_n 3, 1) := by decide +kernel
theorem dX4_tooSoonBy_21 : decode cX4_tooSoonBy 21 = .ok (.iload_n 1, 1) := by decide +kernel
theorem dX4_tooSoonBy_22 : decode cX4_tooSoonBy 22 = .ok (.if_icmp .eq 66, 3) := by decide +kernel
theorem dX4_tooSoonBy_25 : decode cX4_tooSoonBy 25 = .ok (.aload_n 0, 1) := by decide +kernel
theorem dX4_tooSoonBy_26 : decode cX4_tooSoonBy 26 = .ok (.getfield 15, 3) := by decide +kernel
theorem dX4_tooSoonBy_29 : decode cX4_tooSoonBy 29 = .ok (.iload_n 3, 1) := by decide +kernel
theorem dX4_tooSoonBy_30 : decode cX4_tooSoonBy 30 = .ok (.baload, 1) := by decide +kernel
theorem dX4_tooSoonBy_31 : decode cX4_tooSoonBy 31 = .ok (.ifCond .eq 57, 3) := by decide +kernel
theorem dX4_tooSoonBy_34 : decode cX4_tooSoonBy 34 = .ok (.aload_n 0, 1) := by decide +kernel
theorem dX4_tooSoonBy_35 : decode cX4_tooSoonBy 35 = .ok (.getfield 9, 3) := by decide +kernel
theorem dX4_tooSoonBy_38 : decode cX4_tooSoonBy 38 = .ok (.iload_n 3, 1) := by decide +kernel
theorem dX4_tooSoonBy_39 : decode cX4_tooSoonBy 39 = .ok (.iaload, 1) := by decide +kernel
theorem dX4_tooSoonBy_40 : decode cX4_tooSoonBy 40 = .ok (.aload_n 0, 1) := by decide +kernel
theorem dX4_tooSoonBy_41 : decode cX4_tooSoonBy 41 = .ok (.getfield 9, 3) := by decide +kernel
theorem dX4_tooSoonBy_44 : decode cX4_tooSoonBy 44 = .ok (.iload_n 1, 1) := by decide +kernel
theorem dX4_tooSoonBy_45 : decode cX4_tooSoonBy 45 = .ok (.iaload, 1) := by decide +kernel
theorem dX4_tooSoonBy_46 : decode cX4_tooSoonBy 46 = .ok (.if_icmp .ne 42, 3) := by decide +kernel
theorem dX4_tooSoonBy_49 : decode cX4_tooSoonBy 49 = .ok (.aload_n 0, 1) := by decide +kernel
theorem dX4_tooSoonBy_50 : decode cX4_tooSoonBy 50 = .ok (.iload_n 3, 1) := by decide +kernel
theorem dX4_tooSoonBy_51 : decode cX4_tooSoonBy 51 = .ok (.invokevirtual 92, 3) := by decide +kernel
theorem dX4_tooSoonBy_54 : decode cX4_tooSoonBy 54 = .ok (.istore 4, 2) := by decide +kernel
theorem dX4_tooSoonBy_56 : decode cX4_tooSoonBy 56 = .ok (.iload 4, 2) := by decide +kernel
theorem dX4_tooSoonBy_58 : decode cX4_tooSoonBy 58 = .ok (.ifCond .lt 30, 3) := by decide +kernel
theorem dX4_tooSoonBy_61 : decode cX4_tooSoonBy 61 = .ok (.aload_n 0, 1) := by decide +kernel
theorem dX4_tooSoonBy_62 : decode cX4_tooSoonBy 62 = .ok (.getfield 25, 3) := by decide +kernel
theorem dX4_tooSoonBy_65 : decode cX4_tooSoonBy 65 = .ok (.iload_n 3, 1) := by decide +kernel
theorem dX4_tooSoonBy_66 : decode cX4_tooSoonBy 66 = .ok (.iaload, 1) := by decide +kernel
theorem dX4_tooSoonBy_67 : decode cX4_tooSoonBy 67 = .ok (.aload_n 0, 1) := by decide +kernel
theorem dX4_tooSoonBy_68 : decode cX4_tooSoonBy 68 = .ok (.getfield 25, 3) := by decide +kernel
theorem dX4_tooSoonBy_71 : decode cX4_tooSoonBy 71 = .ok (.iload_n 1, 1) := by decide +kernel
theorem dX4_tooSoonBy_72 : decode cX4_tooSoonBy 72 = .ok (.iaload, 1) := by decide +kernel
theorem dX4_tooSoonBy_73 : decode cX4_tooSoonBy 73 = .ok (.isub, 1) := by decide +kernel
theorem dX4_tooSoonBy_74 : decode cX4_tooSoonBy 74 = .ok (.invokestatic 112, 3) := by decide +kernel
theorem dX4_tooSoonBy_77 : decode cX4_tooSoonBy 77 = .ok (.iload_n 2, 1) := by decide +kernel
theorem dX4_tooSoonBy_78 : decode cX4_tooSoonBy 78 = .ok (.iload 4, 2) := by decide +kernel
theorem dX4_tooSoonBy_80 : decode cX4_tooSoonBy 80 = .ok (.invokestatic 117, 3) := by decide +kernel
theorem dX4_tooSoonBy_83 : decode cX4_tooSoonBy 83 = .ok (.if_icmp .ge 5, 3) := by decide +kernel
theorem dX4_tooSoonBy_86 : decode cX4_tooSoonBy 86 = .ok (.iload_n 3, 1) := by decide +kernel
theorem dX4_tooSoonBy_87 : decode cX4_tooSoonBy 87 = .ok (.ireturn, 1) := by decide +kernel
theorem dX4_tooSoonBy_88 : decode cX4_tooSoonBy 88 = .ok (.iinc 3 1, 3) := by decide +kernel
theorem dX4_tooSoonBy_91 : decode cX4_tooSoonBy 91 = .ok (.goto (-83), 3) := by decide +kernel
theorem dX4_tooSoonBy_94 : decode cX4_tooSoonBy 94 = .ok (.iconst (-1), 1) := by decide +kernel
theorem dX4_tooSoonBy_95 : decode cX4_tooSoonBy 95 = .ok (.ireturn, 1) := by decide +kernel
theorem dX4_isBetweenMisses_0 : decode cX4_isBetweenMisses 0 = .ok (.iconst (-1), 1) := by decide +kernel
theorem dX4_isBetweenMisses_1 : decode cX4_isBetweenMisses 1 = .ok (.istore_n 2, 1) := by decide +kernel
theorem dX4_isBetweenMisses_2 : decode cX4_isBetweenMisses 2 = .ok (.iconst (-1), 1) := by decide +kernel
theorem dX4_isBetweenMisses_3 : decode cX4_isBetweenMisses 3 = .ok (.istore_n 3, 1) := by decide +kernel
theorem dX4_isBetweenMisses_4 : decode cX4_isBetweenMisses 4 = .ok (.iconst 0, 1) := by decide +kernel
theorem dX4_isBetweenMisses_5 : decode cX4_isBetweenMisses 5 = .ok (.istore 4, 2) := by decide +kernel
theorem dX4_isBetweenMisses_7 : decode cX4_isBetweenMisses 7 = .ok (.iload 4, 2) := by decide +kernel
theorem dX4_isBetweenMisses_9 : decode cX4_isBetweenMisses 9 = .ok (.aload_n 0, 1) := by decide +kernel
theorem dX4_isBetweenMisses_10 : decode cX4_isBetweenMisses 10 = .ok (.getfield 39, 3) := by decide +kernel
theorem dX4_isBetweenMisses_13 : decode cX4_isBetweenMisses 13 = .ok (.if_icmp .ge 89, 3) := by decide +kernel
theorem dX4_isBetweenMisses_16 : decode cX4_isBetweenMisses 16 = .ok (.iload 4, 2) := by decide +kernel
theorem dX4_isBetweenMisses_18 : decode cX4_isBetweenMisses 18 = .ok (.iload_n 1, 1) := by decide +kernel
theorem dX4_isBetweenMisses_19 : decode cX4_isBetweenMisses 19 = .ok (.if_icmp .eq 77, 3) := by decide +kernel
theorem dX4_isBetweenMisses_22 : decode cX4_isBetweenMisses 22 = .ok (.aload_n 0, 1) := by decide +kernel
theorem dX4_isBetweenMisses_23 : decode cX4_isBetweenMisses 23 = .ok (.getfield 22, 3) := by decide +kernel
theorem dX4_isBetweenMisses_26 : decode cX4_isBetweenMisses 26 = .ok (.iload 4, 2) := by decide +kernel
theorem dX4_isBetweenMisses_28 : decode cX4_isBetweenMisses 28 = .ok (.iaload, 1) := by decide +kernel
theorem dX4_isBetweenMisses_29 : decode cX4_isBetweenMisses 29 = .ok (.aload_n 0, 1) := by decide +kernel
theorem dX4_isBetweenMisses_30 : decode cX4_isBetweenMisses 30 = .ok (.getfield 22, 3) := by decide +kernel
theorem dX4_isBetweenMisses_33 : decode cX4_isBetweenMisses 33 = .ok (.iload_n 1, 1) := by decide +kernel
theorem dX4_isBetweenMisses_34 : decode cX4_isBetweenMisses 34 = .ok (.iaload, 1) := by decide +kernel
theorem dX4_isBetweenMisses_35 : decode cX4_isBetweenMisses 35 = .ok (.if_icmp .eq 6, 3) := by decide +kernel
theorem dX4_isBetweenMisses_38 : decode cX4_isBetweenMisses 38 = .ok (.goto 58, 3) := by decide +kernel
theorem dX4_isBetweenMisses_41 : decode cX4_isBetweenMisses 41 = .ok (.aload_n 0, 1) := by decide +kernel
theorem dX4_isBetweenMisses_42 : decode cX4_isBetweenMisses 42 = .ok (.iload_n 1, 1) := by decide +kernel
theorem dX4_isBetweenMisses_43 : decode cX4_isBetweenMisses 43 = .ok (.iload 4, 2) := by decide +kernel
theorem dX4_isBetweenMisses_45 : decode cX4_isBetweenMisses 45 = .ok (.invokevirtual 67, 3) := by decide +kernel
theorem dX4_isBetweenMisses_48 : decode cX4_isBetweenMisses 48 = .ok (.ifCond .eq 27, 3) := by decide +kernel
theorem dX4_isBetweenMisses_51 : decode cX4_isBetweenMisses 51 = .ok (.iload_n 2, 1) := by decide +kernel
theorem dX4_isBetweenMisses_52 : decode cX4_isBetweenMisses 52 = .ok (.ifCond .lt 13, 3) := by decide +kernel
theorem dX4_isBetweenMisses_55 : decode cX4_isBetweenMisses 55 = .ok (.aload_n 0, 1) := by decide +kernel
theorem dX4_isBetweenMisses_56 : decode cX4_isBetweenMisses 56 = .ok (.iload 4, 2) := by decide +kernel
theorem dX4_isBetweenMisses_58 : decode cX4_isBetweenMisses 58 = .ok (.iload_n 2, 1) := by decide +kernel
theorem dX4_isBetweenMisses_59 : decode cX4_isBetweenMisses 59 = .ok (.invokevirtual 67, 3) := by decide +kernel
theorem dX4_isBetweenMisses_62 : decode cX4_isBetweenMisses 62 = .ok (.ifCond .eq 8, 3) := by decide +kernel
theorem dX4_isBetweenMisses_65 : decode cX4_isBetweenMisses 65 = .ok (.iload 4, 2) := by decide +kernel
theorem dX4_isBetweenMisses_67 : decode cX4_isBetweenMisses 67 = .ok (.goto 4, 3) := by decide +kernel
theorem dX4_isBetweenMisses_70 : decode cX4_isBetweenMisses 70 = .ok (.iload_n 2, 1) := by decide +kernel
theorem dX4_isBetweenMisses_71 : decode cX4_isBetweenMisses 71 = .ok (.istore_n 2, 1) := by decide +kernel
theorem dX4_isBetweenMisses_72 : decode cX4_isBetweenMisses 72 = .ok (.goto 24, 3) := by decide +kernel
theorem dX4_isBetweenMisses_75 : decode cX4_isBetweenMisses 75 = .ok (.iload_n 3, 1) := by decide +kernel
theorem dX4_isBetweenMisses_76 : decode cX4_isBetweenMisses 76 = .ok (.ifCond .lt 13, 3) := by decide +kernel
theorem dX4_isBetweenMisses_79 : decode cX4_isBetweenMisses 79 = .ok (.aload_n 0, 1) := by decide +kernel
theorem dX4_isBetweenMisses_80 : decode cX4_isBetweenMisses 80 = .ok (.iload_n 3, 1) := by decide +kernel
theorem dX4_isBetweenMisses_81 : decode cX4_isBetweenMisses 81 = .ok (.iload 4, 2) := by decide +kernel
theorem dX4_isBetweenMisses_83 : decode cX4_isBetweenMisses 83 = .ok (.invokevirtual 67, 3) := by decide +kernel
theorem dX4_isBetweenMisses_86 : decode cX4_isBetweenMisses 86 = .ok (.ifCond .eq 8, 3) := by decide +kernel
theorem dX4_isBetweenMisses_89 : decode cX4_isBetweenMisses 89 = .ok (.iload 4, 2) := by decide +kernel
theorem dX4_isBetweenMisses_91 : decode cX4_isBetweenMisses 91 = .ok (.goto 4, 3) := by decide +kernel
theorem dX4_isBetweenMisses_94 : decode cX4_isBetweenMisses 94 = .ok (.iload_n 3, 1) := by decide +kernel
theorem dX4_isBetweenMisses_95 : decode cX4_isBetweenMisses 95 = .ok (.istore_n 3, 1) := by decide +kernel
theorem dX4_isBetweenMisses_96 : decode cX4_isBetweenMisses 96 = .ok (.iinc 4 1, 3) := by decide +kernel
theorem dX4_isBetweenMisses_99 : decode cX4_isBetweenMisses 99 = .ok (.goto (-92), 3) := by decide +kernel
theorem dX4_isBetweenMisses_102 : decode cX4_isBetweenMisses 102 = .ok (.iload_n 2, 1) := by decide +kernel
theorem dX4_isBetweenMisses_103 : decode cX4_isBetweenMisses 103 = .ok (.ifCond .lt 29, 3) := by decide +kernel
theorem dX4_isBetweenMisses_106 : decode cX4_isBetweenMisses 106 = .ok (.iload_n 3, 1) := by decide +kernel
theorem dX4_isBetweenMisses_107 : decode cX4_isBetweenMisses 107 = .ok (.ifCond .lt 25, 3) := by decide +kernel
theorem dX4_isBetweenMisses_110 : decode cX4_isBetweenMisses 110 = .ok (.aload_n 0, 1) := by decide +kernel
theorem dX4_isBetweenMisses_111 : decode cX4_isBetweenMisses 111 = .ok (.getfield 15, 3) := by decide +kernel
theorem dX4_isBetweenMisses_114 : decode cX4_isBetweenMisses 114 = .ok (.iload_n 2, 1) := by decide +kernel
theorem dX4_isBetweenMisses_115 : decode cX4_isBetweenMisses 115 = .ok (.baload, 1) := by decide +kernel
theorem dX4_isBetweenMisses_116 : decode cX4_isBetweenMisses 116 = .ok (.ifCond .ne 16, 3) := by decide +kernel
theorem dX4_isBetweenMisses_119 : decode cX4_isBetweenMisses 119 = .ok (.aload_n 0, 1) := by decide +kernel
theorem dX4_isBetweenMisses_120 : decode cX4_isBetweenMisses 120 = .ok (.getfield 15, 3) := by decide +kernel
theorem dX4_isBetweenMisses_123 : decode cX4_isBetweenMisses 123 = .ok (.iload_n 3, 1) := by decide +kernel
theorem dX4_isBetweenMisses_124 : decode cX4_isBetweenMisses 124 = .ok (.baload, 1) := by decide +kernel
theorem dX4_isBetweenMisses_125 : decode cX4_isBetweenMisses 125 = .ok (.ifCond .ne 7, 3) := by decide +kernel
theorem dX4_isBetweenMisses_128 : decode cX4_isBetweenMisses 128 = .ok (.iconst 1, 1) := by decide +kernel
theorem dX4_isBetweenMisses_129 : decode cX4_isBetweenMisses 129 = .ok (.goto 4, 3) := by decide +kernel
theorem dX4_isBetweenMisses_132 : decode cX4_isBetweenMisses 132 = .ok (.iconst 0, 1) := by decide +kernel
theorem dX4_isBetweenMisses_133 : decode cX4_isBetweenMisses 133 = .ok (.ireturn, 1) := by decide +kernel
theorem dX4_goneFrom_0 : decode cX4_goneFrom 0 = .ok (.aload_n 1, 1) := by decide +kernel
theorem dX4_goneFrom_1 : decode cX4_goneFrom 1 = .ok (.getfield 61, 3) := by decide +kernel
theorem dX4_goneFrom_4 : decode cX4_goneFrom 4 = .ok (.ifCond .ge 13, 3) := by decide +kernel
theorem dX4_goneFrom_7 : decode cX4_goneFrom 7 = .ok (.bipush 24, 2) := by decide +kernel
theorem dX4_goneFrom_9 : decode cX4_goneFrom 9 = .ok (.aload_n 1, 1) := by decide +kernel
theorem dX4_goneFrom_10 : decode cX4_goneFrom 10 = .ok (.getfield 121, 3) := by decide +kernel
theorem dX4_goneFrom_13 : decode cX4_goneFrom 13 = .ok (.imul, 1) := by decide +kernel
theorem dX4_goneFrom_14 : decode cX4_goneFrom 14 = .ok (.goto 12, 3) := by decide +kernel
theorem dX4_goneFrom_17 : decode cX4_goneFrom 17 = .ok (.aload_n 0, 1) := by decide +kernel
theorem dX4_goneFrom_18 : decode cX4_goneFrom 18 = .ok (.getfield 25, 3) := by decide +kernel
theorem dX4_goneFrom_21 : decode cX4_goneFrom 21 = .ok (.aload_n 1, 1) := by decide +kernel
theorem dX4_goneFrom_22 : decode cX4_goneFrom 22 = .ok (.getfield 61, 3) := by decide +kernel
theorem dX4_goneFrom_25 : decode cX4_goneFrom 25 = .ok (.iaload, 1) := by decide +kernel
theorem dX4_goneFrom_26 : decode cX4_goneFrom 26 = .ok (.ireturn, 1) := by decide +kernel
theorem dX4_goneTo_0 : decode cX4_goneTo 0 = .ok (.iconst (-1), 1) := by decide +kernel
theorem dX4_goneTo_1 : decode cX4_goneTo 1 = .ok (.istore_n 2, 1) := by decide +kernel
theorem dX4_goneTo_2 : decode cX4_goneTo 2 = .ok (.iconst 0, 1) := by decide +kernel
theorem dX4_goneTo_3 : decode cX4_goneTo 3 = .ok (.istore_n 3, 1) := by decide +kernel
theorem dX4_goneTo_4 : decode cX4_goneTo 4 = .ok (.iload_n 3, 1) := by decide +kernel
theorem dX4_goneTo_5 : decode cX4_goneTo 5 = .ok (.aload_n 0, 1) := by decide +kernel
theorem dX4_goneTo_6 : decode cX4_goneTo 6 = .ok (.getfield 39, 3) := by decide +kernel
theorem dX4_goneTo_9 : decode cX4_goneTo 9 = .ok (.if_icmp .ge 39, 3) := by decide +kernel
theorem dX4_goneTo_12 : decode cX4_goneTo 12 = .ok (.aload_n 0, 1) := by decide +kernel
theorem dX4_goneTo_13 : decode cX4_goneTo 13 = .ok (.iload_n 3, 1) := by decide +kernel
theorem dX4_goneTo_14 : decode cX4_goneTo 14 = .ok (.aload_n 1, 1) := by decide +kernel
theorem dX4_goneTo_15 : decode cX4_goneTo 15 = .ok (.invokevirtual 71, 3) := by decide +kernel
theorem dX4_goneTo_18 : decode cX4_goneTo 18 = .ok (.ifCond .eq 24, 3) := by decide +kernel
theorem dX4_goneTo_21 : decode cX4_goneTo 21 = .ok (.iload_n 2, 1) := by decide +kernel
theorem dX4_goneTo_22 : decode cX4_goneTo 22 = .ok (.ifCond .lt 13, 3) := by decide +kernel
theorem dX4_goneTo_25 : decode cX4_goneTo 25 = .ok (.aload_n 0, 1) := by decide +kernel
theorem dX4_goneTo_26 : decode cX4_goneTo 26 = .ok (.getfield 25, 3) := by decide +kernel
theorem dX4_goneTo_29 : decode cX4_goneTo 29 = .ok (.iload_n 3, 1) := by decide +kernel
theorem dX4_goneTo_30 : decode cX4_goneTo 30 = .ok (.iaload, 1) := by decide +kernel
theorem dX4_goneTo_31 : decode cX4_goneTo 31 = .ok (.iload_n 2, 1) := by decide +kernel
theorem dX4_goneTo_32 : decode cX4_goneTo 32 = .ok (.if_icmp .ge 10, 3) := by decide +kernel
theorem dX4_goneTo_35 : decode cX4_goneTo 35 = .ok (.aload_n 0, 1) := by decide +kernel
theorem dX4_goneTo_36 : decode cX4_goneTo 36 = .ok (.getfield 25, 3) := by decide +kernel
theorem dX4_goneTo_39 : decode cX4_goneTo 39 = .ok (.iload_n 3, 1) := by decide +kernel
theorem dX4_goneTo_40 : decode cX4_goneTo 40 = .ok (.iaload, 1) := by decide +kernel
theorem dX4_goneTo_41 : decode cX4_goneTo 41 = .ok (.istore_n 2, 1) := by decide +kernel
theorem dX4_goneTo_42 : decode cX4_goneTo 42 = .ok (.iinc 3 1, 3) := by decide +kernel
theorem dX4_goneTo_45 : decode cX4_goneTo 45 = .ok (.goto (-41), 3) := by decide +kernel
theorem dX4_goneTo_48 : decode cX4_goneTo 48 = .ok (.iload_n 2, 1) := by decide +kernel
theorem dX4_goneTo_49 : decode cX4_goneTo 49 = .ok (.ireturn, 1) := by decide +kernel
theorem dX4_chanceOf_0 : decode cX4_chanceOf 0 = .ok (.iconst 0, 1) := by decide +kernel
theorem dX4_chanceOf_1 : decode cX4_chanceOf 1 = .ok (.istore_n 2, 1) := by decide +kernel
theorem dX4_chanceOf_2 : decode cX4_chanceOf 2 = .ok (.iconst 0, 1) := by decide +kernel
theorem dX4_chanceOf_3 : decode cX4_chanceOf 3 = .ok (.istore_n 3, 1) := by decide +kernel
theorem dX4_chanceOf_4 : decode cX4_chanceOf 4 = .ok (.iload_n 3, 1) := by decide +kernel
theorem dX4_chanceOf_5 : decode cX4_chanceOf 5 = .ok (.aload_n 0, 1) := by decide +kernel
theorem dX4_chanceOf_6 : decode cX4_chanceOf 6 = .ok (.getfield 39, 3) := by decide +kernel
theorem dX4_chanceOf_9 : decode cX4_chanceOf 9 = .ok (.if_icmp .ge 42, 3) := by decide +kernel
theorem dX4_chanceOf_12 : decode cX4_chanceOf 12 = .ok (.aload_n 0, 1) := by decide +kernel
theorem dX4_chanceOf_13 : decode cX4_chanceOf 13 = .ok (.getfield 15, 3) := by decide +kernel
theorem dX4_chanceOf_16 : decode cX4_chanceOf 16 = .ok (.iload_n 3, 1) := by decide +kernel
theorem dX4_chanceOf_17 : decode cX4_chanceOf 17 = .ok (.baload, 1) := by decide +kernel
theorem dX4_chanceOf_18 : decode cX4_chanceOf 18 = .ok (.ifCond .eq 27, 3) := by decide +kernel
theorem dX4_chanceOf_21 : decode cX4_chanceOf 21 = .ok (.aload_n 0, 1) := by decide +kernel
theorem dX4_chanceOf_22 : decode cX4_chanceOf 22 = .ok (.iload_n 3, 1) := by decide +kernel
theorem dX4_chanceOf_23 : decode cX4_chanceOf 23 = .ok (.invokevirtual 124, 3) := by decide +kernel
theorem dX4_chanceOf_26 : decode cX4_chanceOf 26 = .ok (.ifCond .eq 19, 3) := by decide +kernel
theorem dX4_chanceOf_29 : decode cX4_chanceOf 29 = .ok (.iload_n 1, 1) := by decide +kernel
theorem dX4_chanceOf_30 : decode cX4_chanceOf 30 = .ok (.ifCond .eq 12, 3) := by decide +kernel
theorem dX4_chanceOf_33 : decode cX4_chanceOf 33 = .ok (.aload_n 0, 1) := by decide +kernel
theorem dX4_chanceOf_34 : decode cX4_chanceOf 34 = .ok (.iload_n 3, 1) := by decide +kernel
theorem dX4_chanceOf_35 : decode cX4_chanceOf 35 = .ok (.invokevirtual 127, 3) := by decide +kernel
theorem dX4_chanceOf_38 : decode cX4_chanceOf 38 = .ok (.iconst 2, 1) := by decide +kernel
theorem dX4_chanceOf_39 : decode cX4_chanceOf 39 = .ok (.if_icmp .ne 6, 3) := by decide +kernel
theorem dX4_chanceOf_42 : decode cX4_chanceOf 42 = .ok (.iinc 2 1, 3) := by decide +kernel
theorem dX4_chanceOf_45 : decode cX4_chanceOf 45 = .ok (.iinc 3 1, 3) := by decide +kernel
theorem dX4_chanceOf_48 : decode cX4_chanceOf 48 = .ok (.goto (-44), 3) := by decide +kernel
theorem dX4_chanceOf_51 : decode cX4_chanceOf 51 = .ok (.iload_n 2, 1) := by decide +kernel
theorem dX4_chanceOf_52 : decode cX4_chanceOf 52 = .ok (.ireturn, 1) := by decide +kernel
theorem dX4_hasAnotherFound_0 : decode cX4_hasAnotherFound 0 = .ok (.iconst 0, 1) := by decide +kernel
theorem dX4_hasAnotherFound_1 : decode cX4_hasAnotherFound 1 = .ok (.istore_n 2, 1) := by decide +kernel
theorem dX4_hasAnotherFound_2 : decode cX4_hasAnotherFound 2 = .ok (.iload_n 2, 1) := by decide +kernel
theorem dX4_hasAnotherFound_3 : decode cX4_hasAnotherFound 3 = .ok (.aload_n 0, 1) := by decide +kernel
theorem dX4_hasAnotherFound_4 : decode cX4_hasAnotherFound 4 = .ok (.getfield 39, 3) := by decide +kernel
theorem dX4_hasAnotherFound_7 : decode cX4_hasAnotherFound 7 = .ok (.if_icmp .ge 40, 3) := by decide +kernel
theorem dX4_hasAnotherFound_10 : decode cX4_hasAnotherFound 10 = .ok (.iload_n 2, 1) := by decide +kernel
theorem dX4_hasAnotherFound_11 : decode cX4_hasAnotherFound 11 = .ok (.iload_n 1, 1) := by decide +kernel
theorem dX4_hasAnotherFound_12 : decode cX4_hasAnotherFound 12 = .ok (.if_icmp .eq 29, 3) := by decide +kernel
theorem dX4_hasAnotherFound_15 : decode cX4_hasAnotherFound 15 = .ok (.aload_n 0, 1) := by decide +kernel
theorem dX4_hasAnotherFound_16 : decode cX4_hasAnotherFound 16 = .ok (.getfield 15, 3) := by decide +kernel
theorem dX4_hasAnotherFound_19 : decode cX4_hasAnotherFound 19 = .ok (.iload_n 2, 1) := by decide +kernel
theorem dX4_hasAnotherFound_20 : decode cX4_hasAnotherFound 20 = .ok (.baload, 1) := by decide +kernel
theorem dX4_hasAnotherFound_21 : decode cX4_hasAnotherFound 21 = .ok (.ifCond .eq 20, 3) := by decide +kernel
theorem dX4_hasAnotherFound_24 : decode cX4_hasAnotherFound 24 = .ok (.aload_n 0, 1) := by decide +kernel
theorem dX4_hasAnotherFound_25 : decode cX4_hasAnotherFound 25 = .ok (.getfield 9, 3) := by decide +kernel
theorem dX4_hasAnotherFound_28 : decode cX4_hasAnotherFound 28 = .ok (.iload_n 2, 1) := by decide +kernel
theorem dX4_hasAnotherFound_29 : decode cX4_hasAnotherFound 29 = .ok (.iaload, 1) := by decide +kernel
theorem dX4_hasAnotherFound_30 : decode cX4_hasAnotherFound 30 = .ok (.aload_n 0, 1) := by decide +kernel
theorem dX4_hasAnotherFound_31 : decode cX4_hasAnotherFound 31 = .ok (.getfield 9, 3) := by decide +kernel
theorem dX4_hasAnotherFound_34 : decode cX4_hasAnotherFound 34 = .ok (.iload_n 1, 1) := by decide +kernel
theorem dX4_hasAnotherFound_35 : decode cX4_hasAnotherFound 35 = .ok (.iaload, 1) := by decide +kernel
theorem dX4_hasAnotherFound_36 : decode cX4_hasAnotherFound 36 = .ok (.if_icmp .ne 5, 3) := by decide +kernel
theorem dX4_hasAnotherFound_39 : decode cX4_hasAnotherFound 39 = .ok (.iconst 1, 1) := by decide +kernel
theorem dX4_hasAnotherFound_40 : decode cX4_hasAnotherFound 40 = .ok (.ireturn, 1) := by decide +kernel
theorem dX4_hasAnotherFound_41 : decode cX4_hasAnotherFound 41 = .ok (.iinc 2 1, 3) := by decide +kernel
theorem dX4_hasAnotherFound_44 : decode cX4_hasAnotherFound 44 = .ok (.goto (-42), 3) := by decide +kernel
theorem dX4_hasAnotherFound_47 : decode cX4_hasAnotherFound 47 = .ok (.iconst 0, 1) := by decide +kernel
theorem dX4_hasAnotherFound_48 : decode cX4_hasAnotherFound 48 = .ok (.ireturn, 1) := by decide +kernel
theorem dX4_whereAfter_0 : decode cX4_whereAfter 0 = .ok (.iload_n 2, 1) := by decide +kernel
theorem dX4_whereAfter_1 : decode cX4_whereAfter 1 = .ok (.ifCond .lt 11, 3) := by decide +kernel
theorem dX4_whereAfter_4 : decode cX4_whereAfter 4 = .ok (.iload_n 2, 1) := by decide +kernel
theorem dX4_whereAfter_5 : decode cX4_whereAfter 5 = .ok (.aload_n 1, 1) := by decide +kernel
theorem dX4_whereAfter_6 : decode cX4_whereAfter 6 = .ok (.getfield 130, 3) := by decide +kernel
theorem dX4_whereAfter_9 : decode cX4_whereAfter 9 = .ok (.if_icmp .lt 5, 3) := by decide +kernel
theorem dX4_whereAfter_12 : decode cX4_whereAfter 12 = .ok (.iconst (-1), 1) := by decide +kernel
theorem dX4_whereAfter_13 : decode cX4_whereAfter 13 = .ok (.ireturn, 1) := by decide +kernel
theorem dX4_whereAfter_14 : decode cX4_whereAfter 14 = .ok (.aload_n 1, 1) := by decide +kernel
theorem dX4_whereAfter_15 : decode cX4_whereAfter 15 = .ok (.getfield 135, 3) := by decide +kernel
theorem dX4_whereAfter_18 : decode cX4_whereAfter 18 = .ok (.iload_n 2, 1) := by decide +kernel
theorem dX4_whereAfter_19 : decode cX4_whereAfter 19 = .ok (.baload, 1) := by decide +kernel
theorem dX4_whereAfter_20 : decode cX4_whereAfter 20 = .ok (.ifCond .eq 17, 3) := by decide +kernel
theorem dX4_whereAfter_23 : decode cX4_whereAfter 23 = .ok (.aload_n 0, 1) := by decide +kernel
theorem dX4_whereAfter_24 : decode cX4_whereAfter 24 = .ok (.getfield 22, 3) := by decide +kernel
theorem dX4_whereAfter_27 : decode cX4_whereAfter 27 = .ok (.aload_n 1, 1) := by decide +kernel
theorem dX4_whereAfter_28 : decode cX4_whereAfter 28 = .ok (.getfield 138, 3) := by decide +kernel
theorem dX4_whereAfter_31 : decode cX4_whereAfter 31 = .ok (.iload_n 2, 1) := by decide +kernel
theorem dX4_whereAfter_32 : decode cX4_whereAfter 32 = .ok (.iaload, 1) := by decide +kernel
theorem dX4_whereAfter_33 : decode cX4_whereAfter 33 = .ok (.iaload, 1) := by decide +kernel
theorem dX4_whereAfter_34 : decode cX4_whereAfter 34 = .ok (.goto 14, 3) := by decide +kernel
theorem dX4_whereAfter_37 : decode cX4_whereAfter 37 = .ok (.aload_n 0, 1) := by decide +kernel
theorem dX4_whereAfter_38 : decode cX4_whereAfter 38 = .ok (.getfield 9, 3) := by decide +kernel
theorem dX4_whereAfter_41 : decode cX4_whereAfter 41 = .ok (.aload_n 1, 1) := by decide +kernel
theorem dX4_whereAfter_42 : decode cX4_whereAfter 42 = .ok (.getfield 138, 3) := by decide +kernel
theorem dX4_whereAfter_45 : decode cX4_whereAfter 45 = .ok (.iload_n 2, 1) := by decide +kernel
theorem dX4_whereAfter_46 : decode cX4_whereAfter 46 = .ok (.iaload, 1) := by decide +kernel
theorem dX4_whereAfter_47 : decode cX4_whereAfter 47 = .ok (.iaload, 1) := by decide +kernel
theorem dX4_whereAfter_48 : decode cX4_whereAfter 48 = .ok (.ireturn, 1) := by decide +kernel
theorem dX4_isJump_0 : decode cX4_isJump 0 = .ok (.aload_n 1, 1) := by decide +kernel
theorem dX4_isJump_1 : decode cX4_isJump 1 = .ok (.getfield 135, 3) := by decide +kernel
theorem dX4_isJump_4 : decode cX4_isJump 4 = .ok (.iload_n 2, 1) := by decide +kernel
theorem dX4_isJump_5 : decode cX4_isJump 5 = .ok (.baload, 1) := by decide +kernel
theorem dX4_isJump_6 : decode cX4_isJump 6 = .ok (.ifCond .eq 17, 3) := by decide +kernel
theorem dX4_isJump_9 : decode cX4_isJump 9 = .ok (.aload_n 0, 1) := by decide +kernel
theorem dX4_isJump_10 : decode cX4_isJump 10 = .ok (.getfield 9, 3) := by decide +kernel
theorem dX4_isJump_13 : decode cX4_isJump 13 = .ok (.aload_n 1, 1) := by decide +kernel
theorem dX4_isJump_14 : decode cX4_isJump 14 = .ok (.getfield 138, 3) := by decide +kernel
theorem dX4_isJump_17 : decode cX4_isJump 17 = .ok (.iload_n 2, 1) := by decide +kernel
theorem dX4_isJump_18 : decode cX4_isJump 18 = .ok (.iaload, 1) := by decide +kernel
theorem dX4_isJump_19 : decode cX4_isJump 19 = .ok (.iaload, 1) := by decide +kernel
theorem dX4_isJump_20 : decode cX4_isJump 20 = .ok (.goto 14, 3) := by decide +kernel
theorem dX4_isJump_23 : decode cX4_isJump 23 = .ok (.aload_n 0, 1) := by decide +kernel
theorem dX4_isJump_24 : decode cX4_isJump 24 = .ok (.getfield 22, 3) := by decide +kernel
theorem dX4_isJump_27 : decode cX4_isJump 27 = .ok (.aload_n 1, 1) := by decide +kernel
theorem dX4_isJump_28 : decode cX4_isJump 28 = .ok (.getfield 138, 3) := by decide +kernel
theorem dX4_isJump_31 : decode cX4_isJump 31 = .ok (.iload_n 2, 1) := by decide +kernel
theorem dX4_isJump_32 : decode cX4_isJump 32 = .ok (.iaload, 1) := by decide +kernel
theorem dX4_isJump_33 : decode cX4_isJump 33 = .ok (.iaload, 1) := by decide +kernel
theorem dX4_isJump_34 : decode cX4_isJump 34 = .ok (.istore_n 3, 1) := by decide +kernel
theorem dX4_isJump_35 : decode cX4_isJump 35 = .ok (.aload_n 0, 1) := by decide +kernel
theorem dX4_isJump_36 : decode cX4_isJump 36 = .ok (.aload_n 1, 1) := by decide +kernel
theorem dX4_isJump_37 : decode cX4_isJump 37 = .ok (.iload_n 2, 1) := by decide +kernel
theorem dX4_isJump_38 : decode cX4_isJump 38 = .ok (.iconst 1, 1) := by decide +kernel
theorem dX4_isJump_39 : decode cX4_isJump 39 = .ok (.isub, 1) := by decide +kernel
theorem dX4_isJump_40 : decode cX4_isJump 40 = .ok (.invokevirtual 141, 3) := by decide +kernel
theorem dX4_isJump_43 : decode cX4_isJump 43 = .ok (.iload_n 3, 1) := by decide +kernel
theorem dX4_isJump_44 : decode cX4_isJump 44 = .ok (.if_icmp .eq 7, 3) := by decide +kernel
theorem dX4_isJump_47 : decode cX4_isJump 47 = .ok (.iconst 1, 1) := by decide +kernel
theorem dX4_isJump_48 : decode cX4_isJump 48 = .ok (.goto 4, 3) := by decide +kernel
theorem dX4_isJump_51 : decode cX4_isJump 51 = .ok (.iconst 0, 1) := by decide +kernel
theorem dX4_isJump_52 : decode cX4_isJump 52 = .ok (.ireturn, 1) := by decide +kernel
theorem dX4_chainOf_0 : decode cX4_chainOf 0 = .ok (.iconst 0, 1) := by decide +kernel
theorem dX4_chainOf_1 : decode cX4_chainOf 1 = .ok (.istore_n 2, 1) := by decide +kernel
theorem dX4_chainOf_2 : decode cX4_chainOf 2 = .ok (.iconst (-1), 1) := by decide +kernel
theorem dX4_chainOf_3 : decode cX4_chainOf 3 = .ok (.istore_n 3, 1) := by decide +kernel
theorem dX4_chainOf_4 : decode cX4_chainOf 4 = .ok (.iconst 0, 1) := by decide +kernel
theorem dX4_chainOf_5 : decode cX4_chainOf 5 = .ok (.istore 4, 2) := by decide +kernel
theorem dX4_chainOf_7 : decode cX4_chainOf 7 = .ok (.iload 4, 2) := by decide +kernel
theorem dX4_chainOf_9 : decode cX4_chainOf 9 = .ok (.aload_n 1, 1) := by decide +kernel
theorem dX4_chainOf_10 : decode cX4_chainOf 10 = .ok (.getfield 130, 3) := by decide +kernel
theorem dX4_chainOf_13 : decode cX4_chainOf 13 = .ok (.if_icmp .ge 71, 3) := by decide +kernel
theorem dX4_chainOf_16 : decode cX4_chainOf 16 = .ok (.aload_n 1, 1) := by decide +kernel
theorem dX4_chainOf_17 : decode cX4_chainOf 17 = .ok (.getfield 135, 3) := by decide +kernel
theorem dX4_chainOf_20 : decode cX4_chainOf 20 = .ok (.iload 4, 2) := by decide +kernel
theorem dX4_chainOf_22 : decode cX4_chainOf 22 = .ok (.baload, 1) := by decide +kernel
theorem dX4_chainOf_23 : decode cX4_chainOf 23 = .ok (.ifCond .eq 55, 3) := by decide +kernel
theorem dX4_chainOf_26 : decode cX4_chainOf 26 = .ok (.aload_n 0, 1) := by decide +kernel
theorem dX4_chainOf_27 : decode cX4_chainOf 27 = .ok (.iload_n 3, 1) := by decide +kernel
theorem dX4_chainOf_28 : decode cX4_chainOf 28 = .ok (.invokevirtual 92, 3) := by decide +kernel
theorem dX4_chainOf_31 : decode cX4_chainOf 31 = .ok (.istore 5, 2) := by decide +kernel
theorem dX4_chainOf_33 : decode cX4_chainOf 33 = .ok (.aload_n 0, 1) := by decide +kernel
theorem dX4_chainOf_34 : decode cX4_chainOf 34 = .ok (.aload_n 1, 1) := by decide +kernel
theorem dX4_chainOf_35 : decode cX4_chainOf 35 = .ok (.getfield 138, 3) := by decide +kernel
theorem dX4_chainOf_38 : decode cX4_chainOf 38 = .ok (.iload 4, 2) := by decide +kernel
theorem dX4_chainOf_40 : decode cX4_chainOf 40 = .ok (.iaload, 1) := by decide +kernel
theorem dX4_chainOf_41 : decode cX4_chainOf 41 = .ok (.invokevirtual 92, 3) := by decide +kernel
theorem dX4_chainOf_44 : decode cX4_chainOf 44 = .ok (.istore 6, 2) := by decide +kernel
theorem dX4_chainOf_46 : decode cX4_chainOf 46 = .ok (.iload_n 2, 1) := by decide +kernel
theorem dX4_chainOf_47 : decode cX4_chainOf 47 = .ok (.iload 5, 2) := by decide +kernel
theorem dX4_chainOf_49 : decode cX4_chainOf 49 = .ok (.ifCond .lt 8, 3) := by decide +kernel
theorem dX4_chainOf_52 : decode cX4_chainOf 52 = .ok (.iload 6, 2) := by decide +kernel
theorem dX4_chainOf_54 : decode cX4_chainOf 54 = .ok (.ifCond .ge 7, 3) := by decide +kernel
theorem dX4_chainOf_57 : decode cX4_chainOf 57 = .ok (.iconst 0, 1) := by decide +kernel
theorem dX4_chainOf_58 : decode cX4_chainOf 58 = .ok (.goto 10, 3) := by decide +kernel
theorem dX4_chainOf_61 : decode cX4_chainOf 61 = .ok (.iload 5, 2) := by decide +kernel
theorem dX4_chainOf_63 : decode cX4_chainOf 63 = .ok (.iload 6, 2) := by decide +kernel
theorem dX4_chainOf_65 : decode cX4_chainOf 65 = .ok (.invokestatic 145, 3) := by decide +kernel
theorem dX4_chainOf_68 : decode cX4_chainOf 68 = .ok (.iadd, 1) := by decide +kernel
theorem dX4_chainOf_69 : decode cX4_chainOf 69 = .ok (.istore_n 2, 1) := by decide +kernel
theorem dX4_chainOf_70 : decode cX4_chainOf 70 = .ok (.aload_n 1, 1) := by decide +kernel
theorem dX4_chainOf_71 : decode cX4_chainOf 71 = .ok (.getfield 138, 3) := by decide +kernel
theorem dX4_chainOf_74 : decode cX4_chainOf 74 = .ok (.iload 4, 2) := by decide +kernel
theorem dX4_chainOf_76 : decode cX4_chainOf 76 = .ok (.iaload, 1) := by decide +kernel
theorem dX4_chainOf_77 : decode cX4_chainOf 77 = .ok (.istore_n 3, 1) := by decide +kernel
theorem dX4_chainOf_78 : decode cX4_chainOf 78 = .ok (.iinc 4 1, 3) := by decide +kernel
theorem dX4_chainOf_81 : decode cX4_chainOf 81 = .ok (.goto (-74), 3) := by decide +kernel
theorem dX4_chainOf_84 : decode cX4_chainOf 84 = .ok (.iload_n 2, 1) := by decide +kernel
theorem dX4_chainOf_85 : decode cX4_chainOf 85 = .ok (.ireturn, 1) := by decide +kernel
theorem dX4_tallyFinds_0 : decode cX4_tallyFinds 0 = .ok (.aload_n 0, 1) := by decide +kernel
theorem dX4_tallyFinds_1 : decode cX4_tallyFinds 1 = .ok (.getfield 19, 3) := by decide +kernel
theorem dX4_tallyFinds_4 : decode cX4_tallyFinds 4 = .ok (.iconst 0, 1) := by decide +kernel
theorem dX4_tallyFinds_5 : decode cX4_tallyFinds 5 = .ok (.invokestatic 148, 3) := by decide +kernel
theorem dX4_tallyFinds_8 : decode cX4_tallyFinds 8 = .ok (.iconst 0, 1) := by decide +kernel
theorem dX4_tallyFinds_9 : decode cX4_tallyFinds 9 = .ok (.istore_n 3, 1) := by decide +kernel
theorem dX4_tallyFinds_10 : decode cX4_tallyFinds 10 = .ok (.iload_n 3, 1) := by decide +kernel
theorem dX4_tallyFinds_11 : decode cX4_tallyFinds 11 = .ok (.aload_n 0, 1) := by decide +kernel
theorem dX4_tallyFinds_12 : decode cX4_tallyFinds 12 = .ok (.getfield 39, 3) := by decide +kernel
theorem dX4_tallyFinds_15 : decode cX4_tallyFinds 15 = .ok (.if_icmp .ge 111, 3) := by decide +kernel
theorem dX4_tallyFinds_18 : decode cX4_tallyFinds 18 = .ok (.aload_n 0, 1) := by decide +kernel
theorem dX4_tallyFinds_19 : decode cX4_tallyFinds 19 = .ok (.getfield 28, 3) := by decide +kernel
theorem dX4_tallyFinds_22 : decode cX4_tallyFinds 22 = .ok (.iload_n 3, 1) := by decide +kernel
theorem dX4_tallyFinds_23 : decode cX4_tallyFinds 23 = .ok (.aload_n 0, 1) := by decide +kernel
theorem dX4_tallyFinds_24 : decode cX4_tallyFinds 24 = .ok (.getfield 15, 3) := by decide +kernel
theorem dX4_tallyFinds_27 : decode cX4_tallyFinds 27 = .ok (.iload_n 3, 1) := by decide +kernel
theorem dX4_tallyFinds_28 : decode cX4_tallyFinds 28 = .ok (.baload, 1) := by decide +kernel
theorem dX4_tallyFinds_29 : decode cX4_tallyFinds 29 = .ok (.ifCond .eq 57, 3) := by decide +kernel
theorem dX4_tallyFinds_32 : decode cX4_tallyFinds 32 = .ok (.aload_n 0, 1) := by decide +kernel
theorem dX4_tallyFinds_33 : decode cX4_tallyFinds 33 = .ok (.getfield 25, 3) := by decide +kernel
theorem dX4_tallyFinds_36 : decode cX4_tallyFinds 36 = .ok (.iload_n 3, 1) := by decide +kernel
theorem dX4_tallyFinds_37 : decode cX4_tallyFinds 37 = .ok (.iaload, 1) := by decide +kernel
theorem dX4_tallyFinds_38 : decode cX4_tallyFinds 38 = .ok (.bipush 24, 2) := by decide +kernel
theorem dX4_tallyFinds_40 : decode cX4_tallyFinds 40 = .ok (.idiv, 1) := by decide +kernel
theorem dX4_tallyFinds_41 : decode cX4_tallyFinds 41 = .ok (.iload_n 1, 1) := by decide +kernel
theorem dX4_tallyFinds_42 : decode cX4_tallyFinds 42 = .ok (.if_icmp .gt 44, 3) := by decide +kernel
theorem dX4_tallyFinds_45 : decode cX4_tallyFinds 45 = .ok (.aload_n 0, 1) := by decide +kernel
theorem dX4_tallyFinds_46 : decode cX4_tallyFinds 46 = .ok (.getfield 35, 3) := by decide +kernel
theorem dX4_tallyFinds_49 : decode cX4_tallyFinds 49 = .ok (.aload_n 0, 1) := by decide +kernel
theorem dX4_tallyFinds_50 : decode cX4_tallyFinds 50 = .ok (.getfield 9, 3) := by decide +kernel
theorem dX4_tallyFinds_53 : decode cX4_tallyFinds 53 = .ok (.iload_n 3, 1) := by decide +kernel
theorem dX4_tallyFinds_54 : decode cX4_tallyFinds 54 = .ok (.iaload, 1) := by decide +kernel
theorem dX4_tallyFinds_55 : decode cX4_tallyFinds 55 = .ok (.aload_n 0, 1) := by decide +kernel
theorem dX4_tallyFinds_56 : decode cX4_tallyFinds 56 = .ok (.getfield 22, 3) := by decide +kernel
theorem dX4_tallyFinds_59 : decode cX4_tallyFinds 59 = .ok (.iload_n 3, 1) := by decide +kernel
theorem dX4_tallyFinds_60 : decode cX4_tallyFinds 60 = .ok (.iaload, 1) := by decide +kernel
theorem dX4_tallyFinds_61 : decode cX4_tallyFinds 61 = .ok (.aload_n 0, 1) := by decide +kernel
theorem dX4_tallyFinds_62 : decode cX4_tallyFinds 62 = .ok (.getfield 25, 3) := by decide +kernel
theorem dX4_tallyFinds_65 : decode cX4_tallyFinds 65 = .ok (.iload_n 3, 1) := by decide +kernel
theorem dX4_tallyFinds_66 : decode cX4_tallyFinds 66 = .ok (.iaload, 1) := by decide +kernel
theorem dX4_tallyFinds_67 : decode cX4_tallyFinds 67 = .ok (.iload_n 2, 1) := by decide +kernel
theorem dX4_tallyFinds_68 : decode cX4_tallyFinds 68 = .ok (.invokevirtual 79, 3) := by decide +kernel
theorem dX4_tallyFinds_71 : decode cX4_tallyFinds 71 = .ok (.ifCond .eq 15, 3) := by decide +kernel
theorem dX4_tallyFinds_74 : decode cX4_tallyFinds 74 = .ok (.aload_n 0, 1) := by decide +kernel
theorem dX4_tallyFinds_75 : decode cX4_tallyFinds 75 = .ok (.iload_n 3, 1) := by decide +kernel
theorem dX4_tallyFinds_76 : decode cX4_tallyFinds 76 = .ok (.invokevirtual 127, 3) := by decide +kernel
theorem dX4_tallyFinds_79 : decode cX4_tallyFinds 79 = .ok (.ifCond .ne 7, 3) := by decide +kernel
theorem dX4_tallyFinds_82 : decode cX4_tallyFinds 82 = .ok (.iconst 1, 1) := by decide +kernel
theorem dX4_tallyFinds_83 : decode cX4_tallyFinds 83 = .ok (.goto 4, 3) := by decide +kernel
theorem dX4_tallyFinds_86 : decode cX4_tallyFinds 86 = .ok (.iconst 0, 1) := by decide +kernel
theorem dX4_tallyFinds_87 : decode cX4_tallyFinds 87 = .ok (.bastore, 1) := by decide +kernel
theorem dX4_tallyFinds_88 : decode cX4_tallyFinds 88 = .ok (.aload_n 0, 1) := by decide +kernel
theorem dX4_tallyFinds_89 : decode cX4_tallyFinds 89 = .ok (.getfield 28, 3) := by decide +kernel
theorem dX4_tallyFinds_92 : decode cX4_tallyFinds 92 = .ok (.iload_n 3, 1) := by decide +kernel
theorem dX4_tallyFinds_93 : decode cX4_tallyFinds 93 = .ok (.baload, 1) := by decide +kernel
theorem dX4_tallyFinds_94 : decode cX4_tallyFinds 94 = .ok (.ifCond .eq 26, 3) := by decide +kernel
theorem dX4_tallyFinds_97 : decode cX4_tallyFinds 97 = .ok (.aload_n 0, 1) := by decide +kernel
theorem dX4_tallyFinds_98 : decode cX4_tallyFinds 98 = .ok (.iload_n 3, 1) := by decide +kernel
theorem dX4_tallyFinds_99 : decode cX4_tallyFinds 99 = .ok (.invokevirtual 154, 3) := by decide +kernel
theorem dX4_tallyFinds_102 : decode cX4_tallyFinds 102 = .ok (.ifCond .ne 18, 3) := by decide +kernel
theorem dX4_tallyFinds_105 : decode cX4_tallyFinds 105 = .ok (.aload_n 0, 1) := by decide +kernel
theorem dX4_tallyFinds_106 : decode cX4_tallyFinds 106 = .ok (.getfield 19, 3) := by decide +kernel
theorem dX4_tallyFinds_109 : decode cX4_tallyFinds 109 = .ok (.aload_n 0, 1) := by decide +kernel
theorem dX4_tallyFinds_110 : decode cX4_tallyFinds 110 = .ok (.getfield 9, 3) := by decide +kernel
theorem dX4_tallyFinds_113 : decode cX4_tallyFinds 113 = .ok (.iload_n 3, 1) := by decide +kernel
theorem dX4_tallyFinds_114 : decode cX4_tallyFinds 114 = .ok (.iaload, 1) := by decide +kernel
theorem dX4_tallyFinds_115 : decode cX4_tallyFinds 115 = .ok (.dup2, 1) := by decide +kernel
theorem dX4_tallyFinds_116 : decode cX4_tallyFinds 116 = .ok (.iaload, 1) := by decide +kernel
theorem dX4_tallyFinds_117 : decode cX4_tallyFinds 117 = .ok (.iconst 1, 1) := by decide +kernel
theorem dX4_tallyFinds_118 : decode cX4_tallyFinds 118 = .ok (.iadd, 1) := by decide +kernel
theorem dX4_tallyFinds_119 : decode cX4_tallyFinds 119 = .ok (.iastore, 1) := by decide +kernel
theorem dX4_tallyFinds_120 : decode cX4_tallyFinds 120 = .ok (.iinc 3 1, 3) := by decide +kernel
theorem dX4_tallyFinds_123 : decode cX4_tallyFinds 123 = .ok (.goto (-113), 3) := by decide +kernel
theorem dX4_tallyFinds_126 : decode cX4_tallyFinds 126 = .ok (.return_, 1) := by decide +kernel
theorem dX4_isTalliedAhead_0 : decode cX4_isTalliedAhead 0 = .ok (.iconst 0, 1) := by decide +kernel
theorem dX4_isTalliedAhead_1 : decode cX4_isTalliedAhead 1 = .ok (.istore_n 2, 1) := by decide +kernel
theorem dX4_isTalliedAhead_2 : decode cX4_isTalliedAhead 2 = .ok (.iload_n 2, 1) := by decide +kernel
theorem dX4_isTalliedAhead_3 : decode cX4_isTalliedAhead 3 = .ok (.iload_n 1, 1) := by decide +kernel
theorem dX4_isTalliedAhead_4 : decode cX4_isTalliedAhead 4 = .ok (.if_icmp .ge 50, 3) := by decide +kernel
theorem dX4_isTalliedAhead_7 : decode cX4_isTalliedAhead 7 = .ok (.aload_n 0, 1) := by decide +kernel
theorem dX4_isTalliedAhead_8 : decode cX4_isTalliedAhead 8 = .ok (.getfield 28, 3) := by decide +kernel
theorem dX4_isTalliedAhead_11 : decode cX4_isTalliedAhead 11 = .ok (.iload_n 2, 1) := by decide +kernel
theorem dX4_isTalliedAhead_12 : decode cX4_isTalliedAhead 12 = .ok (.baload, 1) := by decide +kernel
theorem dX4_isTalliedAhead_13 : decode cX4_isTalliedAhead 13 = .ok (.ifCond .eq 35, 3) := by decide +kernel
theorem dX4_isTalliedAhead_16 : decode cX4_isTalliedAhead 16 = .ok (.aload_n 0, 1) := by decide +kernel
theorem dX4_isTalliedAhead_17 : decode cX4_isTalliedAhead 17 = .ok (.getfield 9, 3) := by decide +kernel
theorem dX4_isTalliedAhead_20 : decode cX4_isTalliedAhead 20 = .ok (.iload_n 2, 1) := by decide +kernel
theorem dX4_isTalliedAhead_21 : decode cX4_isTalliedAhead 21 = .ok (.iaload, 1) := by decide +kernel
theorem dX4_isTalliedAhead_22 : decode cX4_isTalliedAhead 22 = .ok (.aload_n 0, 1) := by decide +kernel
theorem dX4_isTalliedAhead_23 : decode cX4_isTalliedAhead 23 = .ok (.getfield 9, 3) := by decide +kernel
theorem dX4_isTalliedAhead_26 : decode cX4_isTalliedAhead 26 = .ok (.iload_n 1, 1) := by decide +kernel
theorem dX4_isTalliedAhead_27 : decode cX4_isTalliedAhead 27 = .ok (.iaload, 1) := by decide +kernel
theorem dX4_isTalliedAhead_28 : decode cX4_isTalliedAhead 28 = .ok (.if_icmp .ne 20, 3) := by decide +kernel
theorem dX4_isTalliedAhead_31 : decode cX4_isTalliedAhead 31 = .ok (.aload_n 0, 1) := by decide +kernel
theorem dX4_isTalliedAhead_32 : decode cX4_isTalliedAhead 32 = .ok (.getfield 22, 3) := by decide +kernel
theorem dX4_isTalliedAhead_35 : decode cX4_isTalliedAhead 35 = .ok (.iload_n 2, 1) := by decide +kernel
theorem dX4_isTalliedAhead_36 : decode cX4_isTalliedAhead 36 = .ok (.iaload, 1) := by decide +kernel
theorem dX4_isTalliedAhead_37 : decode cX4_isTalliedAhead 37 = .ok (.aload_n 0, 1) := by decide +kernel
theorem dX4_isTalliedAhead_38 : decode cX4_isTalliedAhead 38 = .ok (.getfield 22, 3) := by decide +kernel
theorem dX4_isTalliedAhead_41 : decode cX4_isTalliedAhead 41 = .ok (.iload_n 1, 1) := by decide +kernel
theorem dX4_isTalliedAhead_42 : decode cX4_isTalliedAhead 42 = .ok (.iaload, 1) := by decide +kernel
theorem dX4_isTalliedAhead_43 : decode cX4_isTalliedAhead 43 = .ok (.if_icmp .ne 5, 3) := by decide +kernel
theorem dX4_isTalliedAhead_46 : decode cX4_isTalliedAhead 46 = .ok (.iconst 1, 1) := by decide +kernel
theorem dX4_isTalliedAhead_47 : decode cX4_isTalliedAhead 47 = .ok (.ireturn, 1) := by decide +kernel
theorem dX4_isTalliedAhead_48 : decode cX4_isTalliedAhead 48 = .ok (.iinc 2 1, 3) := by decide +kernel
theorem dX4_isTalliedAhead_51 : decode cX4_isTalliedAhead 51 = .ok (.goto (-49), 3) := by decide +kernel
theorem dX4_isTalliedAhead_54 : decode cX4_isTalliedAhead 54 = .ok (.iconst 0, 1) := by decide +kernel
theorem dX4_isTalliedAhead_55 : decode cX4_isTalliedAhead 55 = .ok (.ireturn, 1) := by decide +kernel
theorem dX4_placeOf_0 : decode cX4_placeOf 0 = .ok (.iconst 1, 1) := by decide +kernel
theorem dX4_placeOf_1 : decode cX4_placeOf 1 = .ok (.istore_n 2, 1) := by decide +kernel
theorem dX4_placeOf_2 : decode cX4_placeOf 2 = .ok (.iconst 0, 1) := by decide +kernel
theorem dX4_placeOf_3 : decode cX4_placeOf 3 = .ok (.istore_n 3, 1) := by decide +kernel
theorem dX4_placeOf_4 : decode cX4_placeOf 4 = .ok (.iload_n 3, 1) := by decide +kernel
theorem dX4_placeOf_5 : decode cX4_placeOf 5 = .ok (.aload_n 0, 1) := by decide +kernel
theorem dX4_placeOf_6 : decode cX4_placeOf 6 = .ok (.getfield 19, 3) := by decide +kernel
theorem dX4_placeOf_9 : decode cX4_placeOf 9 = .ok (.arraylength, 1) := by decide +kernel
theorem dX4_placeOf_10 : decode cX4_placeOf 10 = .ok (.if_icmp .ge 32, 3) := by decide +kernel
theorem dX4_placeOf_13 : decode cX4_placeOf 13 = .ok (.iload_n 2, 1) := by decide +kernel
theorem dX4_placeOf_14 : decode cX4_placeOf 14 = .ok (.aload_n 0, 1) := by decide +kernel
theorem dX4_placeOf_15 : decode cX4_placeOf 15 = .ok (.getfield 19, 3) := by decide +kernel
theorem dX4_placeOf_18 : decode cX4_placeOf 18 = .ok (.iload_n 3, 1) := by decide +kernel
theorem dX4_placeOf_19 : decode cX4_placeOf 19 = .ok (.iaload, 1) := by decide +kernel
theorem dX4_placeOf_20 : decode cX4_placeOf 20 = .ok (.aload_n 0, 1) := by decide +kernel
theorem dX4_placeOf_21 : decode cX4_placeOf 21 = .ok (.getfield 19, 3) := by decide +kernel
theorem dX4_placeOf_24 : decode cX4_placeOf 24 = .ok (.iload_n 1, 1) := by decide +kernel
theorem dX4_placeOf_25 : decode cX4_placeOf 25 = .ok (.iaload, 1) := by decide +kernel
theorem dX4_placeOf_26 : decode cX4_placeOf 26 = .ok (.if_icmp .le 7, 3) := by decide +kernel
theorem dX4_placeOf_29 : decode cX4_placeOf 29 = .ok (.iconst 1, 1) := by decide +kernel
theorem dX4_placeOf_30 : decode cX4_placeOf 30 = .ok (.goto 4, 3) := by decide +kernel
theorem dX4_placeOf_33 : decode cX4_placeOf 33 = .ok (.iconst 0, 1) := by decide +kernel
theorem dX4_placeOf_34 : decode cX4_placeOf 34 = .ok (.iadd, 1) := by decide +kernel
theorem dX4_placeOf_35 : decode cX4_placeOf 35 = .ok (.istore_n 2, 1) := by decide +kernel
theorem dX4_placeOf_36 : decode cX4_placeOf 36 = .ok (.iinc 3 1, 3) := by decide +kernel
theorem dX4_placeOf_39 : decode cX4_placeOf 39 = .ok (.goto (-35), 3) := by decide +kernel
theorem dX4_placeOf_42 : decode cX4_placeOf 42 = .ok (.iload_n 2, 1) := by decide +kernel
theorem dX4_placeOf_43 : decode cX4_placeOf 43 = .ok (.ireturn, 1) := by decide +kernel
theorem dX5_init_0 : decode cX5_init 0 = .ok (.aload_n 0, 1) := by decide +kernel
theorem dX5_init_1 : decode cX5_init 1 = .ok (.invokespecial 3, 3) := by decide +kernel
theorem dX5_init_4 : decode cX5_init 4 = .ok (.aload_n 0, 1) := by decide +kernel
theorem dX5_init_5 : decode cX5_init 5 = .ok (.bipush 8, 2) := by decide +kernel
theorem dX5_init_7 : decode cX5_init 7 = .ok (.newarray .int, 2) := by decide +kernel
theorem dX5_init_9 : decode cX5_init 9 = .ok (.putfield 11, 3) := by decide +kernel
theorem dX5_init_12 : decode cX5_init 12 = .ok (.aload_n 0, 1) := by decide +kernel
theorem dX5_init_13 : decode cX5_init 13 = .ok (.bipush 8, 2) := by decide +kernel
theorem dX5_init_15 : decode cX5_init 15 = .ok (.newarray .int, 2) := by decide +kernel
theorem dX5_init_17 : decode cX5_init 17 = .ok (.putfield 15, 3) := by decide +kernel
theorem dX5_init_20 : decode cX5_init 20 = .ok (.aload_n 0, 1) := by decide +kernel
theorem dX5_init_21 : decode cX5_init 21 = .ok (.bipush 8, 2) := by decide +kernel
theorem dX5_init_23 : decode cX5_init 23 = .ok (.newarray .int, 2) := by decide +kernel
theorem dX5_init_25 : decode cX5_init 25 = .ok (.putfield 18, 3) := by decide +kernel
theorem dX5_init_28 : decode cX5_init 28 = .ok (.aload_n 0, 1) := by decide +kernel
theorem dX5_init_29 : decode cX5_init 29 = .ok (.bipush 8, 2) := by decide +kernel
theorem dX5_init_31 : decode cX5_init 31 = .ok (.newarray .int, 2) := by decide +kernel
theorem dX5_init_33 : decode cX5_init 33 = .ok (.putfield 21, 3) := by decide +kernel
theorem dX5_init_36 : decode cX5_init 36 = .ok (.aload_n 0, 1) := by decide +kernel
theorem dX5_init_37 : decode cX5_init 37 = .ok (.bipush 8, 2) := by decide +kernel
theorem dX5_init_39 : decode cX5_init 39 = .ok (.newarray .int, 2) := by decide +kernel
theorem dX5_init_41 : decode cX5_init 41 = .ok (.putfield 24, 3) := by decide +kernel
theorem dX5_init_44 : decode cX5_init 44 = .ok (.aload_n 0, 1) := by decide +kernel
theorem dX5_init_45 : decode cX5_init 45 = .ok (.iconst (-1), 1) := by decide +kernel
theorem dX5_init_46 : decode cX5_init 46 = .ok (.putfield 27, 3) := by decide +kernel
theorem dX5_init_49 : decode cX5_init 49 = .ok (.aload_n 0, 1) := by decide +kernel
theorem dX5_init_50 : decode cX5_init 50 = .ok (.iconst (-1), 1) := by decide +kernel
theorem dX5_init_51 : decode cX5_init 51 = .ok (.putfield 31, 3) := by decide +kernel
theorem dX5_init_54 : decode cX5_init 54 = .ok (.aload_n 0, 1) := by decide +kernel
theorem dX5_init_55 : decode cX5_init 55 = .ok (.bipush 6, 2) := by decide +kernel
theorem dX5_init_57 : decode cX5_init 57 = .ok (.newarray .int, 2) := by decide +kernel
theorem dX5_init_59 : decode cX5_init 59 = .ok (.putfield 34, 3) := by decide +kernel
theorem dX5_init_62 : decode cX5_init 62 = .ok (.return_, 1) := by decide +kernel
theorem dX5_tellsCell_0 : decode cX5_tellsCell 0 = .ok (.aload_n 0, 1) := by decide +kernel
theorem dX5_tellsCell_1 : decode cX5_tellsCell 1 = .ok (.getfield 27, 3) := by decide +kernel
theorem dX5_tellsCell_4 : decode cX5_tellsCell 4 = .ok (.ifCond .lt 14, 3) := by decide +kernel
theorem dX5_tellsCell_7 : decode cX5_tellsCell 7 = .ok (.aload_n 0, 1) := by decide +kernel
theorem dX5_tellsCell_8 : decode cX5_tellsCell 8 = .ok (.getfield 31, 3) := by decide +kernel
theorem dX5_tellsCell_11 : decode cX5_tellsCell 11 = .ok (.ifCond .lt 7, 3) := by decide +kernel
theorem dX5_tellsCell_14 : decode cX5_tellsCell 14 = .ok (.iconst 1, 1) := by decide +kernel
theorem dX5_tellsCell_15 : decode cX5_tellsCell 15 = .ok (.goto 4, 3) := by decide +kernel
theorem dX5_tellsCell_18 : decode cX5_tellsCell 18 = .ok (.iconst 0, 1) := by decide +kernel
theorem dX5_tellsCell_19 : decode cX5_tellsCell 19 = .ok (.ireturn, 1) := by decide +kernel
theorem dX5_takeTellings_0 : decode cX5_takeTellings 0 = .ok (.aload_n 0, 1) := by decide +kernel
theorem dX5_takeTellings_1 : decode cX5_takeTellings 1 = .ok (.iconst 0, 1) := by decide +kernel
theorem dX5_takeTellings_2 : decode cX5_takeTellings 2 = .ok (.putfield 37, 3) := by decide +kernel
theorem dX5_takeTellings_5 : decode cX5_takeTellings 5 = .ok (.aload_n 0, 1) := by decide +kernel
theorem dX5_takeTellings_6 : decode cX5_takeTellings 6 = .ok (.iconst 0, 1) := by decide +kernel
theorem dX5_takeTellings_7 : decode cX5_takeTellings 7 = .ok (.putfield 40, 3) := by decide +kernel
theorem dX5_takeTellings_10 : decode cX5_takeTellings 10 = .ok (.aload_n 0, 1) := by decide +kernel
theorem dX5_takeTellings_11 : decode cX5_takeTellings 11 = .ok (.iconst (-1), 1) := by decide +kernel
theorem dX5_takeTellings_12 : decode cX5_takeTellings 12 = .ok (.putfield 27, 3) := by decide +kernel
theorem dX5_takeTellings_15 : decode cX5_takeTellings 15 = .ok (.aload_n 0, 1) := by decide +kernel
theorem dX5_takeTellings_16 : decode cX5_takeTellings 16 = .ok (.iconst (-1), 1) := by decide +kernel
theorem dX5_takeTellings_17 : decode cX5_takeTellings 17 = .ok (.putfield 31, 3) := by decide +kernel
theorem dX5_takeTellings_20 : decode cX5_takeTellings 20 = .ok (.iconst 0, 1) := by decide +kernel
theorem dX5_takeTellings_21 : decode cX5_takeTellings 21 = .ok (.istore 4, 2) := by decide +kernel
theorem dX5_takeTellings_23 : decode cX5_takeTellings 23 = .ok (.iload 4, 2) := by decide +kernel
theorem dX5_takeTellings_25 : decode cX5_takeTellings 25 = .ok (.iload_n 3, 1) := by decide +kernel
theorem dX5_takeTellings_26 : decode cX5_takeTellings 26 = .ok (.if_icmp .ge 37, 3) := by decide +kernel
theorem dX5_takeTellings_29 : decode cX5_takeTellings 29 = .ok (.iload 4, 2) := by decide +kernel
theorem dX5_takeTellings_31 : decode cX5_takeTellings 31 = .ok (.bipush 8, 2) := by decide +kernel
theorem dX5_takeTellings_33 : decode cX5_takeTellings 33 = .ok (.if_icmp .ge 30, 3) := by decide +kernel
theorem dX5_takeTellings_36 : decode cX5_takeTellings 36 = .ok (.aload_n 0, 1) := by decide +kernel
theorem dX5_takeTellings_37 : decode cX5_takeTellings 37 = .ok (.aload_n 1, 1) := by decide +kernel
theorem dX5_takeTellings_38 : decode cX5_takeTellings 38 = .ok (.iload_n 2, 1) := by decide +kernel
theorem dX5_takeTellings_39 : decode cX5_takeTellings 39 = .ok (.i2l, 1) := by decide +kernel
theorem dX5_takeTellings_40 : decode cX5_takeTellings 40 = .ok (.ldc2_w 43, 3) := by decide +kernel
theorem dX5_takeTellings_43 : decode cX5_takeTellings 43 = .ok (.iload 4, 2) := by decide +kernel
theorem dX5_takeTellings_45 : decode cX5_takeTellings 45 = .ok (.i2l, 1) := by decide +kernel
theorem dX5_takeTellings_46 : decode cX5_takeTellings 46 = .ok (.lmul, 1) := by decide +kernel
theorem dX5_takeTellings_47 : decode cX5_takeTellings 47 = .ok (.ladd, 1) := by decide +kernel
theorem dX5_takeTellings_48 : decode cX5_takeTellings 48 = .ok (.invokevirtual 45, 3) := by decide +kernel
theorem dX5_takeTellings_51 : decode cX5_takeTellings 51 = .ok (.ifCond .ne 6, 3) := by decide +kernel
theorem dX5_takeTellings_54 : decode cX5_takeTellings 54 = .ok (.goto 9, 3) := by decide +kernel
theorem dX5_takeTellings_57 : decode cX5_takeTellings 57 = .ok (.iinc 4 1, 3) := by decide +kernel
theorem dX5_takeTellings_60 : decode cX5_takeTellings 60 = .ok (.goto (-37), 3) := by decide +kernel
theorem dX5_takeTellings_63 : decode cX5_takeTellings 63 = .ok (.aload_n 0, 1) := by decide +kernel
theorem dX5_takeTellings_64 : decode cX5_takeTellings 64 = .ok (.getfield 37, 3) := by decide +kernel
theorem dX5_takeTellings_67 : decode cX5_takeTellings 67 = .ok (.ireturn, 1) := by decide +kernel
theorem dX5_takeFive_0 : decode cX5_takeFive 0 = .ok (.aload_n 1, 1) := by decide +kernel
theorem dX5_takeFive_1 : decode cX5_takeFive 1 = .ok (.lload_n 2, 1) := by decide +kernel
theorem dX5_takeFive_2 : decode cX5_takeFive 2 = .ok (.iconst 5, 1) := by decide +kernel
theorem dX5_takeFive_3 : decode cX5_takeFive 3 = .ok (.invokevirtual 49, 3) := by decide +kernel
theorem dX5_takeFive_6 : decode cX5_takeFive 6 = .ok (.ifCond .ne 5, 3) := by decide +kernel
theorem dX5_takeFive_9 : decode cX5_takeFive 9 = .ok (.iconst 0, 1) := by decide +kernel
theorem dX5_takeFive_10 : decode cX5_takeFive 10 = .ok (.ireturn, 1) := by decide +kernel
theorem dX5_takeFive_11 : decode cX5_takeFive 11 = .ok (.aload_n 1, 1) := by decide +kernel
theorem dX5_takeFive_12 : decode cX5_takeFive 12 = .ok (.lload_n 2, 1) := by decide +kernel
theorem dX5_takeFive_13 : decode cX5_takeFive 13 = .ok (.ldc2_w 55, 3) := by decide +kernel
theorem dX5_takeFive_16 : decode cX5_takeFive 16 = .ok (.invokevirtual 57, 3) := by decide +kernel
theorem dX5_takeFive_19 : decode cX5_takeFive 19 = .ok (.l2i, 1) := by decide +kernel
theorem dX5_takeFive_20 : decode cX5_takeFive 20 = .ok (.istore 4, 2) := by decide +kernel
theorem dX5_takeFive_22 : decode cX5_takeFive 22 = .ok (.aload_n 1, 1) := by decide +kernel
theorem dX5_takeFive_23 : decode cX5_takeFive 23 = .ok (.lload_n 2, 1) := by decide +kernel
theorem dX5_takeFive_24 : decode cX5_takeFive 24 = .ok (.lconst 1, 1) := by decide +kernel
theorem dX5_takeFive_25 : decode cX5_takeFive 25 = .ok (.ladd, 1) := by decide +kernel
theorem dX5_takeFive_26 : decode cX5_takeFive 26 = .ok (.ldc2_w 55, 3) := by decide +kernel
theorem dX5_takeFive_29 : decode cX5_takeFive 29 = .ok (.invokevirtual 57, 3) := by decide +kernel
theorem dX5_takeFive_32 : decode cX5_takeFive 32 = .ok (.l2i, 1) := by decide +kernel
theorem dX5_takeFive_33 : decode cX5_takeFive 33 = .ok (.istore 5, 2) := by decide +kernel
theorem dX5_takeFive_35 : decode cX5_takeFive 35 = .ok (.aload_n 1, 1) := by decide +kernel
theorem dX5_takeFive_36 : decode cX5_takeFive 36 = .ok (.lload_n 2, 1) := by decide +kernel
theorem dX5_takeFive_37 : decode cX5_takeFive 37 = .ok (.ldc2_w 61, 3) := by decide +kernel
theorem dX5_takeFive_40 : decode cX5_takeFive 40 = .ok (.ladd, 1) := by decide +kernel
theorem dX5_takeFive_41 : decode cX5_takeFive 41 = .ok (.ldc2_w 55, 3) := by decide +kernel
theorem dX5_takeFive_44 : decode cX5_takeFive 44 = .ok (.invokevirtual 57, 3) := by decide +kernel
theorem dX5_takeFive_47 : decode cX5_takeFive 47 = .ok (.l2i, 1) := by decide +kernel
theorem dX5_takeFive_48 : decode cX5_takeFive 48 = .ok (.istore 6, 2) := by decide +kernel
theorem dX5_takeFive_50 : decode cX5_takeFive 50 = .ok (.aload_n 1, 1) := by decide +kernel
theorem dX5_takeFive_51 : decode cX5_takeFive 51 = .ok (.lload_n 2, 1) := by decide +kernel
theorem dX5_takeFive_52 : decode cX5_takeFive 52 = .ok (.ldc2_w 63, 3) := by decide +kernel
theorem dX5_takeFive_55 : decode cX5_takeFive 55 = .ok (.ladd, 1) := by decide +kernel
theorem dX5_takeFive_56 : decode cX5_takeFive 56 = .ok (.ldc2_w 55, 3) := by decide +kernel
theorem dX5_takeFive_59 : decode cX5_takeFive 59 = .ok (.invokevirtual 57, 3) := by decide +kernel
theorem dX5_takeFive_62 : decode cX5_takeFive 62 = .ok (.l2i, 1) := by decide +kernel
theorem dX5_takeFive_63 : decode cX5_takeFive 63 = .ok (.istore 7, 2) := by decide +kernel
theorem dX5_takeFive_65 : decode cX5_takeFive 65 = .ok (.aload_n 1, 1) := by decide +kernel
theorem dX5_takeFive_66 : decode cX5_takeFive 66 = .ok (.lload_n 2, 1) := by decide +kernel
theorem dX5_takeFive_67 : decode cX5_takeFive 67 = .ok (.ldc2_w 65, 3) := by decide +kernel
theorem dX5_takeFive_70 : decode cX5_takeFive 70 = .ok (.ladd, 1) := by decide +kernel
theorem dX5_takeFive_71 : decode cX5_takeFive 71 = .ok (.ldc2_w 55, 3) := by decide +kernel
theorem dX5_takeFive_74 : decode cX5_takeFive 74 = .ok (.invokevirtual 57, 3) := by decide +kernel
theorem dX5_takeFive_77 : decode cX5_takeFive 77 = .ok (.lconst 0, 1) := by decide +kernel
theorem dX5_takeFive_78 : decode cX5_takeFive 78 = .ok (.lcmp, 1) := by decide +kernel
theorem dX5_takeFive_79 : decode cX5_takeFive 79 = .ok (.ifCond .ne 17, 3) := by decide +kernel
theorem dX5_takeFive_82 : decode cX5_takeFive 82 = .ok (.iload 4, 2) := by decide +kernel
theorem dX5_takeFive_84 : decode cX5_takeFive 84 = .ok (.iload 5, 2) := by decide +kernel
theorem dX5_takeFive_86 : decode cX5_takeFive 86 = .ok (.iload 6, 2) := by decide +kernel
theorem dX5_takeFive_88 : decode cX5_takeFive 88 = .ok (.iload 7, 2) := by decide +kernel
theorem dX5_takeFive_90 : decode cX5_takeFive 90 = .ok (.invokestatic 67, 3) := by decide +kernel
theorem dX5_takeFive_93 : decode cX5_takeFive 93 = .ok (.ifCond .ne 5, 3) := by decide +kernel
theorem dX5_takeFive_96 : decode cX5_takeFive 96 = .ok (.iconst 0, 1) := by decide +kernel
theorem dX5_takeFive_97 : decode cX5_takeFive 97 = .ok (.ireturn, 1) := by decide +kernel
theorem dX5_takeFive_98 : decode cX5_takeFive 98 = .ok (.aload_n 0, 1) := by decide +kernel
theorem dX5_takeFive_99 : decode cX5_takeFive 99 = .ok (.getfield 11, 3) := by decide +kernel
theorem dX5_takeFive_102 : decode cX5_takeFive 102 = .ok (.aload_n 0, 1) := by decide +kernel
theorem dX5_takeFive_103 : decode cX5_takeFive 103 = .ok (.getfield 37, 3) := by decide +kernel
theorem dX5_takeFive_106 : decode cX5_takeFive 106 = .ok (.iload 4, 2) := by decide +kernel
theorem dX5_takeFive_108 : decode cX5_takeFive 108 = .ok (.iastore, 1) := by decide +kernel
theorem dX5_takeFive_109 : decode cX5_takeFive 109 = .ok (.aload_n 0, 1) := by decide +kernel
theorem dX5_takeFive_110 : decode cX5_takeFive 110 = .ok (.getfield 15, 3) := by decide +kernel
theorem dX5_takeFive_113 : decode cX5_takeFive 113 = .ok (.aload_n 0, 1) := by decide +kernel
theorem dX5_takeFive_114 : decode cX5_takeFive 114 = .ok (.getfield 37, 3) := by decide +kernel
theorem dX5_takeFive_117 : decode cX5_takeFive 117 = .ok (.iload 5, 2) := by decide +kernel
theorem dX5_takeFive_119 : decode cX5_takeFive 119 = .ok (.iastore, 1) := by decide +kernel
theorem dX5_takeFive_120 : decode cX5_takeFive 120 = .ok (.aload_n 0, 1) := by decide +kernel
theorem dX5_takeFive_121 : decode cX5_takeFive 121 = .ok (.getfield 18, 3) := by decide +kernel
theorem dX5_takeFive_124 : decode cX5_takeFive 124 = .ok (.aload_n 0, 1) := by decide +kernel
theorem dX5_takeFive_125 : decode cX5_takeFive 125 = .ok (.getfield 37, 3) := by decide +kernel
theorem dX5_takeFive_128 : decode cX5_takeFive 128 = .ok (.iload 6, 2) := by decide +kernel
theorem dX5_takeFive_130 : decode cX5_takeFive 130 = .ok (.iastore, 1) := by decide +kernel
theorem dX5_takeFive_131 : decode cX5_takeFive 131 = .ok (.aload_n 0, 1) := by decide +kernel
theorem dX5_takeFive_132 : decode cX5_takeFive 132 = .ok (.getfield 21, 3) := by decide +kernel
theorem dX5_takeFive_135 : decode cX5_takeFive 135 = .ok (.aload_n 0, 1) := by decide +kernel
theorem dX5_takeFive_136 : decode cX5_takeFive 136 = .ok (.getfield 37, 3) := by decide +kernel
theorem dX5_takeFive_139 : decode cX5_takeFive 139 = .ok (.iload 7, 2) := by decide +kernel
theorem dX5_takeFive_141 : decode cX5_takeFive 141 = .ok (.iastore, 1) := by decide +kernel
theorem dX5_takeFive_142 : decode cX5_takeFive 142 = .ok (.aload_n 0, 1) := by decide +kernel
theorem dX5_takeFive_143 : decode cX5_takeFive 143 = .ok (.getfield 24, 3) := by decide +kernel
theorem dX5_takeFive_146 : decode cX5_takeFive 146 = .ok (.aload_n 0, 1) := by decide +kernel
theorem dX5_takeFive_147 : decode cX5_takeFive 147 = .ok (.getfield 37, 3) := by decide +kernel
theorem dX5_takeFive_150 : decode cX5_takeFive 150 = .ok (.iload 4, 2) := by decide +kernel
theorem dX5_takeFive_152 : decode cX5_takeFive 152 = .ok (.iconst 2, 1) := by decide +kernel
theorem dX5_takeFive_153 : decode cX5_takeFive 153 = .ok (.if_icmp .le 8, 3) := by decide +kernel
theorem dX5_takeFive_156 : decode cX5_takeFive 156 = .ok (.iload 5, 2) := by decide +kernel
theorem dX5_takeFive_158 : decode cX5_takeFive 158 = .ok (.goto 10, 3) := by decide +kernel
theorem dX5_takeFive_161 : decode cX5_takeFive 161 = .ok (.iload 5, 2) := by decide +kernel
theorem dX5_takeFive_163 : decode cX5_takeFive 163 = .ok (.iload 6, 2) := by decide +kernel
theorem dX5_takeFive_165 : decode cX5_takeFive 165 = .ok (.invokestatic 71, 3) := by decide +kernel
theorem dX5_takeFive_168 : decode cX5_takeFive 168 = .ok (.iastore, 1) := by decide +kernel
theorem dX5_takeFive_169 : decode cX5_takeFive 169 = .ok (.aload_n 0, 1) := by decide +kernel
theorem dX5_takeFive_170 : decode cX5_takeFive 170 = .ok (.dup, 1) := by decide +kernel
theorem dX5_takeFive_171 : decode cX5_takeFive 171 = .ok (.getfield 40, 3) := by decide +kernel
theorem dX5_takeFive_174 : decode cX5_takeFive 174 = .ok (.iload 5, 2) := by decide +kernel
theorem dX5_takeFive_176 : decode cX5_takeFive 176 = .ok (.bipush 6, 2) := by decide +kernel
theorem dX5_takeFive_178 : decode cX5_takeFive 178 = .ok (.if_icmp .ne 7, 3) := by decide +kernel
theorem dX5_takeFive_181 : decode cX5_takeFive 181 = .ok (.iconst 0, 1) := by decide +kernel
theorem dX5_takeFive_182 : decode cX5_takeFive 182 = .ok (.goto 7, 3) := by decide +kernel
theorem dX5_takeFive_185 : decode cX5_takeFive 185 = .ok (.iconst 1, 1) := by decide +kernel
theorem dX5_takeFive_186 : decode cX5_takeFive 186 = .ok (.iload 5, 2) := by decide +kernel
theorem dX5_takeFive_188 : decode cX5_takeFive 188 = .ok (.ishl, 1) := by decide +kernel
theorem dX5_takeFive_189 : decode cX5_takeFive 189 = .ok (.ior, 1) := by decide +kernel
theorem dX5_takeFive_190 : decode cX5_takeFive 190 = .ok (.putfield 40, 3) := by decide +kernel
theorem dX5_takeFive_193 : decode cX5_takeFive 193 = .ok (.aload_n 0, 1) := by decide +kernel
theorem dX5_takeFive_194 : decode cX5_takeFive 194 = .ok (.dup, 1) := by decide +kernel
theorem dX5_takeFive_195 : decode cX5_takeFive 195 = .ok (.getfield 40, 3) := by decide +kernel
theorem dX5_takeFive_198 : decode cX5_takeFive 198 = .ok (.iload 4, 2) := by decide +kernel
theorem dX5_takeFive_200 : decode cX5_takeFive 200 = .ok (.iconst 2, 1) := by decide +kernel
theorem dX5_takeFive_201 : decode cX5_takeFive 201 = .ok (.if_icmp .le 7, 3) := by decide +kernel
theorem dX5_takeFive_204 : decode cX5_takeFive 204 = .ok (.iconst 0, 1) := by decide +kernel
theorem dX5_takeFive_205 : decode cX5_takeFive 205 = .ok (.goto 7, 3) := by decide +kernel
theorem dX5_takeFive_208 : decode cX5_takeFive 208 = .ok (.iconst 1, 1) := by decide +kernel
theorem dX5_takeFive_209 : decode cX5_takeFive 209 = .ok (.iload 6, 2) := by decide +kernel
theorem dX5_takeFive_211 : decode cX5_takeFive 211 = .ok (.ishl, 1) := by decide +kernel
theorem dX5_takeFive_212 : decode cX5_takeFive 212 = .ok (.ior, 1) := by decide +kernel
theorem dX5_takeFive_213 : decode cX5_takeFive 213 = .ok (.putfield 40, 3) := by decide +kernel
theorem dX5_takeFive_216 : decode cX5_takeFive 216 = .ok (.aload_n 0, 1) := by decide +kernel
theorem dX5_takeFive_217 : decode cX5_takeFive 217 = .ok (.iload 4, 2) := by decide +kernel
theorem dX5_takeFive_219 : decode cX5_takeFive 219 = .ok (.iconst 4, 1) := by decide +kernel
theorem dX5_takeFive_220 : decode cX5_takeFive 220 = .ok (.if_icmp .ne 10, 3) := by decide +kernel
theorem dX5_takeFive_223 : decode cX5_takeFive 223 = .ok (.aload_n 0, 1) := by decide +kernel
theorem dX5_takeFive_224 : decode cX5_takeFive 224 = .ok (.getfield 37, 3) := by decide +kernel
theorem dX5_takeFive_227 : decode cX5_takeFive 227 = .ok (.goto 7, 3) := by decide +kernel
theorem dX5_takeFive_230 : decode cX5_takeFive 230 = .ok (.aload_n 0, 1) := by decide +kernel
theorem dX5_takeFive_231 : decode cX5_takeFive 231 = .ok (.getfield 27, 3) := by decide +kernel
theorem dX5_takeFive_234 : decode cX5_takeFive 234 = .ok (.putfield 27, 3) := by decide +kernel
theorem dX5_takeFive_237 : decode cX5_takeFive 237 = .ok (.aload_n 0, 1) := by decide +kernel
theorem dX5_takeFive_238 : decode cX5_takeFive 238 = .ok (.iload 4, 2) := by decide +kernel
theorem dX5_takeFive_240 : decode cX5_takeFive 240 = .ok (.iconst 5, 1) := by decide +kernel
theorem dX5_takeFive_241 : decode cX5_takeFive 241 = .ok (.if_icmp .ne 10, 3) := by decide +kernel
theorem dX5_takeFive_244 : decode cX5_takeFive 244 = .ok (.aload_n 0, 1) := by decide +kernel
theorem dX5_takeFive_245 : decode cX5_takeFive 245 = .ok (.getfield 37, 3) := by decide +kernel
theorem dX5_takeFive_248 : decode cX5_takeFive 248 = .ok (.goto 7, 3) := by decide +kernel
theorem dX5_takeFive_251 : decode cX5_takeFive 251 = .ok (.aload_n 0, 1) := by decide +kernel
theorem dX5_takeFive_252 : decode cX5_takeFive 252 = .ok (.getfield 31, 3) := by decide +kernel
theorem dX5_takeFive_255 : decode cX5_takeFive 255 = .ok (.putfield 31, 3) := by decide +kernel
theorem dX5_takeFive_258 : decode cX5_takeFive 258 = .ok (.aload_n 0, 1) := by decide +kernel
theorem dX5_takeFive_259 : decode cX5_takeFive 259 = .ok (.dup, 1) := by decide +kernel
theorem dX5_takeFive_260 : decode cX5_takeFive 260 = .ok (.getfield 37, 3) := by decide +kernel
theorem dX5_takeFive_263 : decode cX5_takeFive 263 = .ok (.iconst 1, 1) := by decide +kernel
theorem dX5_takeFive_264 : decode cX5_takeFive 264 = .ok (.iadd, 1) := by decide +kernel
theorem dX5_takeFive_265 : decode cX5_takeFive 265 = .ok (.putfield 37, 3) := by decide +kernel
theorem dX5_takeFive_268 : decode cX5_takeFive 268 = .ok (.iconst 1, 1) := by decide +kernel
theorem dX5_takeFive_269 : decode cX5_takeFive 269 = .ok (.ireturn, 1) := by decide +kernel
theorem dX5_isTelling_0 : decode cX5_isTelling 0 = .ok (.iload_n 0, 1) := by decide +kernel
theorem dX5_isTelling_1 : decode cX5_isTelling 1 = .ok (.ifCond .lt 27, 3) := by decide +kernel
theorem dX5_isTelling_4 : decode cX5_isTelling 4 = .ok (.iload_n 0, 1) := by decide +kernel
theorem dX5_isTelling_5 : decode cX5_isTelling 5 = .ok (.iconst 5, 1) := by decide +kernel
theorem dX5_isTelling_6 : decode cX5_isTelling 6 = .ok (.if_icmp .gt 22, 3) := by decide +kernel
theorem dX5_isTelling_9 : decode cX5_isTelling 9 = .ok (.iload_n 1, 1) := by decide +kernel
theorem dX5_isTelling_10 : decode cX5_isTelling 10 = .ok (.ifCond .lt 18, 3) := by decide +kernel
theorem dX5_isTelling_13 : decode cX5_isTelling 13 = .ok (.iload_n 1, 1) := by decide +kernel
theorem dX5_isTelling_14 : decode cX5_isTelling 14 = .ok (.iload_n 0, 1) := by decide +kernel
theorem dX5_isTelling_15 : decode cX5_isTelling 15 = .ok (.iconst 4, 1) := by decide +kernel
theorem dX5_isTelling_16 : decode cX5_isTelling 16 = .ok (.if_icmp .lt 8, 3) := by decide +kernel
theorem dX5_isTelling_19 : decode cX5_isTelling 19 = .ok (.bipush 6, 2) := by decide +kernel
theorem dX5_isTelling_21 : decode cX5_isTelling 21 = .ok (.goto 4, 3) := by decide +kernel
theorem dX5_isTelling_24 : decode cX5_isTelling 24 = .ok (.iconst 5, 1) := by decide +kernel
theorem dX5_isTelling_25 : decode cX5_isTelling 25 = .ok (.if_icmp .le 5, 3) := by decide +kernel
theorem dX5_isTelling_28 : decode cX5_isTelling 28 = .ok (.iconst 0, 1) := by decide +kernel
theorem dX5_isTelling_29 : decode cX5_isTelling 29 = .ok (.ireturn, 1) := by decide +kernel
theorem dX5_isTelling_30 : decode cX5_isTelling 30 = .ok (.iload_n 0, 1) := by decide +kernel
theorem dX5_isTelling_31 : decode cX5_isTelling 31 = .ok (.iconst 2, 1) := by decide +kernel
theorem dX5_isTelling_32 : decode cX5_isTelling 32 = .ok (.if_icmp .gt 15, 3) := by decide +kernel
theorem dX5_isTelling_35 : decode cX5_isTelling 35 = .ok (.iload_n 2, 1) := by decide +kernel
theorem dX5_isTelling_36 : decode cX5_isTelling 36 = .ok (.ifCond .lt 9, 3) := by decide +kernel
theorem dX5_isTelling_39 : decode cX5_isTelling 39 = .ok (.iload_n 2, 1) := by decide +kernel
theorem dX5_isTelling_40 : decode cX5_isTelling 40 = .ok (.bipush 6, 2) := by decide +kernel
theorem dX5_isTelling_42 : decode cX5_isTelling 42 = .ok (.if_icmp .lt 5, 3) := by decide +kernel
theorem dX5_isTelling_45 : decode cX5_isTelling 45 = .ok (.iconst 0, 1) := by decide +kernel
theorem dX5_isTelling_46 : decode cX5_isTelling 46 = .ok (.ireturn, 1) := by decide +kernel
theorem dX5_isTelling_47 : decode cX5_isTelling 47 = .ok (.iload_n 3, 1) := by decide +kernel
theorem dX5_isTelling_48 : decode cX5_isTelling 48 = .ok (.getstatic 77, 3) := by decide +kernel
theorem dX5_isTelling_51 : decode cX5_isTelling 51 = .ok (.iload_n 0, 1) := by decide +kernel
theorem dX5_isTelling_52 : decode cX5_isTelling 52 = .ok (.iaload, 1) := by decide +kernel
theorem dX5_isTelling_53 : decode cX5_isTelling 53 = .ok (.if_icmp .lt 16, 3) := by decide +kernel
theorem dX5_isTelling_56 : decode cX5_isTelling 56 = .ok (.iload_n 3, 1) := by decide +kernel
theorem dX5_isTelling_57 : decode cX5_isTelling 57 = .ok (.getstatic 80, 3) := by decide +kernel
theorem dX5_isTelling_60 : decode cX5_isTelling 60 = .ok (.iload_n 0, 1) := by decide +kernel
theorem dX5_isTelling_61 : decode cX5_isTelling 61 = .ok (.iaload, 1) := by decide +kernel
theorem dX5_isTelling_62 : decode cX5_isTelling 62 = .ok (.if_icmp .gt 7, 3) := by decide +kernel
theorem dX5_isTelling_65 : decode cX5_isTelling 65 = .ok (.iconst 1, 1) := by decide +kernel
theorem dX5_isTelling_66 : decode cX5_isTelling 66 = .ok (.goto 4, 3) := by decide +kernel
theorem dX5_isTelling_69 : decode cX5_isTelling 69 = .ok (.iconst 0, 1) := by decide +kernel
theorem dX5_isTelling_70 : decode cX5_isTelling 70 = .ok (.ireturn, 1) := by decide +kernel
theorem dX5_countSolutions_0 : decode cX5_countSolutions 0 = .ok (.aload_n 0, 1) := by decide +kernel
theorem dX5_countSolutions_1 : decode cX5_countSolutions 1 = .ok (.ldc 85, 2) := by decide +kernel
theorem dX5_countSolutions_3 : decode cX5_countSolutions 3 = .ok (.invokevirtual 86, 3) := by decide +kernel
theorem dX5_countSolutions_6 : decode cX5_countSolutions 6 = .ok (.aload_n 0, 1) := by decide +kernel
theorem dX5_countSolutions_7 : decode cX5_countSolutions 7 = .ok (.getfield 90, 3) := by decide +kernel
theorem dX5_countSolutions_10 : decode cX5_countSolutions 10 = .ok (.ireturn, 1) := by decide +kernel
theorem dX5_findSolution_0 : decode cX5_findSolution 0 = .ok (.iload_n 1, 1) := by decide +kernel
theorem dX5_findSolution_1 : decode cX5_findSolution 1 = .ok (.ifCond .lt 9, 3) := by decide +kernel
theorem dX5_findSolution_4 : decode cX5_findSolution 4 = .ok (.iload_n 1, 1) := by decide +kernel
theorem dX5_findSolution_5 : decode cX5_findSolution 5 = .ok (.ldc 85, 2) := by decide +kernel
theorem dX5_findSolution_7 : decode cX5_findSolution 7 = .ok (.if_icmp .ne 5, 3) := by decide +kernel
theorem dX5_findSolution_10 : decode cX5_findSolution 10 = .ok (.iconst 0, 1) := by decide +kernel
theorem dX5_findSolution_11 : decode cX5_findSolution 11 = .ok (.ireturn, 1) := by decide +kernel
theorem dX5_findSolution_12 : decode cX5_findSolution 12 = .ok (.aload_n 0, 1) := by decide +kernel
theorem dX5_findSolution_13 : decode cX5_findSolution 13 = .ok (.iload_n 1, 1) := by decide +kernel
theorem dX5_findSolution_14 : decode cX5_findSolution 14 = .ok (.iconst 1, 1) := by decide +kernel
theorem dX5_findSolution_15 : decode cX5_findSolution 15 = .ok (.iadd, 1) := by decide +kernel
theorem dX5_findSolution_16 : decode cX5_findSolution 16 = .ok (.invokevirtual 86, 3) := by decide +kernel
theorem dX5_findSolution_19 : decode cX5_findSolution 19 = .ok (.aload_n 0, 1) := by decide +kernel
theorem dX5_findSolution_20 : decode cX5_findSolution 20 = .ok (.getfield 90, 3) := by decide +kernel
theorem dX5_findSolution_23 : decode cX5_findSolution 23 = .ok (.aload_n 0, 1) := by decide +kernel
theorem dX5_findSolution_24 : decode cX5_findSolution 24 = .ok (.getfield 93, 3) := by decide +kernel
theorem dX5_findSolution_27 : decode cX5_findSolution 27 = .ok (.if_icmp .ne 7, 3) := by decide +kernel
theorem dX5_findSolution_30 : decode cX5_findSolution 30 = .ok (.iconst 1, 1) := by decide +kernel
theorem dX5_findSolution_31 : decode cX5_findSolution 31 = .ok (.goto 4, 3) := by decide +kernel
theorem dX5_findSolution_34 : decode cX5_findSolution 34 = .ok (.iconst 0, 1) := by decide +kernel
theorem dX5_findSolution_35 : decode cX5_findSolution 35 = .ok (.ireturn, 1) := by decide +kernel
theorem dX5_lookFor_0 : decode cX5_lookFor 0 = .ok (.aload_n 0, 1) := by decide +kernel
theorem dX5_lookFor_1 : decode cX5_lookFor 1 = .ok (.iload_n 1, 1) := by decide +kernel
theorem dX5_lookFor_2 : decode cX5_lookFor 2 = .ok (.putfield 93, 3) := by decide +kernel
theorem dX5_lookFor_5 : decode cX5_lookFor 5 = .ok (.aload_n 0, 1) := by decide +kernel
theorem dX5_lookFor_6 : decode cX5_lookFor 6 = .ok (.iconst 0, 1) := by decide +kernel
theorem dX5_lookFor_7 : decode cX5_lookFor 7 = .ok (.putfield 90, 3) := by decide +kernel
theorem dX5_lookFor_10 : decode cX5_lookFor 10 = .ok (.aload_n 0, 1) := by decide +kernel
theorem dX5_lookFor_11 : decode cX5_lookFor 11 = .ok (.lconst 0, 1) := by decide +kernel
theorem dX5_lookFor_12 : decode cX5_lookFor 12 = .ok (.putfield 96, 3) := by decide +kernel
theorem dX5_lookFor_15 : decode cX5_lookFor 15 = .ok (.aload_n 0, 1) := by decide +kernel
theorem dX5_lookFor_16 : decode cX5_lookFor 16 = .ok (.invokevirtual 100, 3) := by decide +kernel
theorem dX5_lookFor_19 : decode cX5_lookFor 19 = .ok (.ifCond .eq 10, 3) := by decide +kernel
theorem dX5_lookFor_22 : decode cX5_lookFor 22 = .ok (.aload_n 0, 1) := by decide +kernel
theorem dX5_lookFor_23 : decode cX5_lookFor 23 = .ok (.iconst 0, 1) := by decide +kernel
theorem dX5_lookFor_24 : decode cX5_lookFor 24 = .ok (.iconst 0, 1) := by decide +kernel
theorem dX5_lookFor_25 : decode cX5_lookFor 25 = .ok (.iconst 0, 1) := by decide +kernel
theorem dX5_lookFor_26 : decode cX5_lookFor 26 = .ok (.invokevirtual 104, 3) := by decide +kernel
theorem dX5_lookFor_29 : decode cX5_lookFor 29 = .ok (.return_, 1) := by decide +kernel
theorem dX5_search_0 : decode cX5_search 0 = .ok (.iload_n 1, 1) := by decide +kernel
theorem dX5_search_1 : decode cX5_search 1 = .ok (.istore 4, 2) := by decide +kernel
theorem dX5_search_3 : decode cX5_search 3 = .ok (.iload 4, 2) := by decide +kernel
theorem dX5_search_5 : decode cX5_search 5 = .ok (.bipush 6, 2) := by decide +kernel
theorem dX5_search_7 : decode cX5_search 7 = .ok (.if_icmp .ge 21, 3) := by decide +kernel
theorem dX5_search_10 : decode cX5_search 10 = .ok (.aload_n 0, 1) := by decide +kernel
theorem dX5_search_11 : decode cX5_search 11 = .ok (.getfield 40, 3) := by decide +kernel
theorem dX5_search_14 : decode cX5_search 14 = .ok (.iload 4, 2) := by decide +kernel
theorem dX5_search_16 : decode cX5_search 16 = .ok (.ishr, 1) := by decide +kernel
theorem dX5_search_17 : decode cX5_search 17 = .ok (.iconst 1, 1) := by decide +kernel
theorem dX5_search_18 : decode cX5_search 18 = .ok (.iand, 1) := by decide +kernel
theorem dX5_search_19 : decode cX5_search 19 = .ok (.ifCond .ne 9, 3) := by decide +kernel
theorem dX5_search_22 : decode cX5_search 22 = .ok (.iinc 4 1, 3) := by decide +kernel
theorem dX5_search_25 : decode cX5_search 25 = .ok (.goto (-22), 3) := by decide +kernel
theorem dX5_search_28 : decode cX5_search 28 = .ok (.iload 4, 2) := by decide +kernel
theorem dX5_search_30 : decode cX5_search 30 = .ok (.bipush 6, 2) := by decide +kernel
theorem dX5_search_32 : decode cX5_search 32 = .ok (.if_icmp .ge 14, 3) := by decide +kernel
theorem dX5_search_35 : decode cX5_search 35 = .ok (.aload_n 0, 1) := by decide +kernel
theorem dX5_search_36 : decode cX5_search 36 = .ok (.iload 4, 2) := by decide +kernel
theorem dX5_search_38 : decode cX5_search 38 = .ok (.iload_n 2, 1) := by decide +kernel
theorem dX5_search_39 : decode cX5_search 39 = .ok (.iload_n 3, 1) := by decide +kernel
theorem dX5_search_40 : decode cX5_search 40 = .ok (.invokevirtual 108, 3) := by decide +kernel
theorem dX5_search_43 : decode cX5_search 43 = .ok (.goto 8, 3) := by decide +kernel
theorem dX5_search_46 : decode cX5_search 46 = .ok (.aload_n 0, 1) := by decide +kernel
theorem dX5_search_47 : decode cX5_search 47 = .ok (.iload_n 3, 1) := by decide +kernel
theorem dX5_search_48 : decode cX5_search 48 = .ok (.invokevirtual 111, 3) := by decide +kernel
theorem dX5_search_51 : decode cX5_search 51 = .ok (.return_, 1) := by decide +kernel
theorem dX5_tryDigits_0 : decode cX5_tryDigits 0 = .ok (.iconst 0, 1) := by decide +kernel
theorem dX5_tryDigits_1 : decode cX5_tryDigits 1 = .ok (.istore 4, 2) := by decide +kernel
theorem dX5_tryDigits_3 : decode cX5_tryDigits 3 = .ok (.iload 4, 2) := by decide +kernel
theorem dX5_tryDigits_5 : decode cX5_tryDigits 5 = .ok (.bipush 10, 2) := by decide +kernel
theorem dX5_tryDigits_7 : decode cX5_tryDigits 7 = .ok (.if_icmp .ge 65, 3) := by decide +kernel
theorem dX5_tryDigits_10 : decode cX5_tryDigits 10 = .ok (.aload_n 0, 1) := by decide +kernel
theorem dX5_tryDigits_11 : decode cX5_tryDigits 11 = .ok (.getfield 90, 3) := by decide +kernel
theorem dX5_tryDigits_14 : decode cX5_tryDigits 14 = .ok (.aload_n 0, 1) := by decide +kernel
theorem dX5_tryDigits_15 : decode cX5_tryDigits 15 = .ok (.getfield 93, 3) := by decide +kernel
theorem dX5_tryDigits_18 : decode cX5_tryDigits 18 = .ok (.if_icmp .ge 54, 3) := by decide +kernel
theorem dX5_tryDigits_21 : decode cX5_tryDigits 21 = .ok (.iload_n 2, 1) := by decide +kernel
theorem dX5_tryDigits_22 : decode cX5_tryDigits 22 = .ok (.iload 4, 2) := by decide +kernel
theorem dX5_tryDigits_24 : decode cX5_tryDigits 24 = .ok (.ishr, 1) := by decide +kernel
theorem dX5_tryDigits_25 : decode cX5_tryDigits 25 = .ok (.iconst 1, 1) := by decide +kernel
theorem dX5_tryDigits_26 : decode cX5_tryDigits 26 = .ok (.iand, 1) := by decide +kernel
theorem dX5_tryDigits_27 : decode cX5_tryDigits 27 = .ok (.ifCond .ne 39, 3) := by decide +kernel
theorem dX5_tryDigits_30 : decode cX5_tryDigits 30 = .ok (.aload_n 0, 1) := by decide +kernel
theorem dX5_tryDigits_31 : decode cX5_tryDigits 31 = .ok (.getfield 34, 3) := by decide +kernel
theorem dX5_tryDigits_34 : decode cX5_tryDigits 34 = .ok (.iload_n 1, 1) := by decide +kernel
theorem dX5_tryDigits_35 : decode cX5_tryDigits 35 = .ok (.iload 4, 2) := by decide +kernel
theorem dX5_tryDigits_37 : decode cX5_tryDigits 37 = .ok (.iastore, 1) := by decide +kernel
theorem dX5_tryDigits_38 : decode cX5_tryDigits 38 = .ok (.aload_n 0, 1) := by decide +kernel
theorem dX5_tryDigits_39 : decode cX5_tryDigits 39 = .ok (.iload_n 1, 1) := by decide +kernel
theorem dX5_tryDigits_40 : decode cX5_tryDigits 40 = .ok (.invokevirtual 114, 3) := by decide +kernel
theorem dX5_tryDigits_43 : decode cX5_tryDigits 43 = .ok (.ifCond .eq 23, 3) := by decide +kernel
theorem dX5_tryDigits_46 : decode cX5_tryDigits 46 = .ok (.aload_n 0, 1) := by decide +kernel
theorem dX5_tryDigits_47 : decode cX5_tryDigits 47 = .ok (.iload_n 1, 1) := by decide +kernel
theorem dX5_tryDigits_48 : decode cX5_tryDigits 48 = .ok (.iconst 1, 1) := by decide +kernel
theorem dX5_tryDigits_49 : decode cX5_tryDigits 49 = .ok (.iadd, 1) := by decide +kernel
theorem dX5_tryDigits_50 : decode cX5_tryDigits 50 = .ok (.iload_n 2, 1) := by decide +kernel
theorem dX5_tryDigits_51 : decode cX5_tryDigits 51 = .ok (.iconst 1, 1) := by decide +kernel
theorem dX5_tryDigits_52 : decode cX5_tryDigits 52 = .ok (.iload 4, 2) := by decide +kernel
theorem dX5_tryDigits_54 : decode cX5_tryDigits 54 = .ok (.ishl, 1) := by decide +kernel
theorem dX5_tryDigits_55 : decode cX5_tryDigits 55 = .ok (.ior, 1) := by decide +kernel
theorem dX5_tryDigits_56 : decode cX5_tryDigits 56 = .ok (.bipush 10, 2) := by decide +kernel
theorem dX5_tryDigits_58 : decode cX5_tryDigits 58 = .ok (.iload_n 3, 1) := by decide +kernel
theorem dX5_tryDigits_59 : decode cX5_tryDigits 59 = .ok (.imul, 1) := by decide +kernel
theorem dX5_tryDigits_60 : decode cX5_tryDigits 60 = .ok (.iload 4, 2) := by decide +kernel
theorem dX5_tryDigits_62 : decode cX5_tryDigits 62 = .ok (.iadd, 1) := by decide +kernel
theorem dX5_tryDigits_63 : decode cX5_tryDigits 63 = .ok (.invokevirtual 104, 3) := by decide +kernel
theorem dX5_tryDigits_66 : decode cX5_tryDigits 66 = .ok (.iinc 4 1, 3) := by decide +kernel
theorem dX5_tryDigits_69 : decode cX5_tryDigits 69 = .ok (.goto (-66), 3) := by decide +kernel
theorem dX5_tryDigits_72 : decode cX5_tryDigits 72 = .ok (.return_, 1) := by decide +kernel
theorem dX5_meet_0 : decode cX5_meet 0 = .ok (.aload_n 0, 1) := by decide +kernel
theorem dX5_meet_1 : decode cX5_meet 1 = .ok (.aload_n 0, 1) := by decide +kernel
theorem dX5_meet_2 : decode cX5_meet 2 = .ok (.getfield 27, 3) := by decide +kernel
theorem dX5_meet_5 : decode cX5_meet 5 = .ok (.invokevirtual 118, 3) := by decide +kernel
theorem dX5_meet_8 : decode cX5_meet 8 = .ok (.istore_n 2, 1) := by decide +kernel
theorem dX5_meet_9 : decode cX5_meet 9 = .ok (.aload_n 0, 1) := by decide +kernel
theorem dX5_meet_10 : decode cX5_meet 10 = .ok (.aload_n 0, 1) := by decide +kernel
theorem dX5_meet_11 : decode cX5_meet 11 = .ok (.getfield 31, 3) := by decide +kernel
theorem dX5_meet_14 : decode cX5_meet 14 = .ok (.invokevirtual 118, 3) := by decide +kernel
theorem dX5_meet_17 : decode cX5_meet 17 = .ok (.istore_n 3, 1) := by decide +kernel
theorem dX5_meet_18 : decode cX5_meet 18 = .ok (.iload_n 2, 1) := by decide +kernel
theorem dX5_meet_19 : decode cX5_meet 19 = .ok (.bipush 10, 2) := by decide +kernel
theorem dX5_meet_21 : decode cX5_meet 21 = .ok (.invokestatic 122, 3) := by decide +kernel
theorem dX5_meet_24 : decode cX5_meet 24 = .ok (.ifCond .eq 52, 3) := by decide +kernel
theorem dX5_meet_27 : decode cX5_meet 27 = .ok (.iload_n 3, 1) := by decide +kernel
theorem dX5_meet_28 : decode cX5_meet 28 = .ok (.bipush 6, 2) := by decide +kernel
theorem dX5_meet_30 : decode cX5_meet 30 = .ok (.invokestatic 122, 3) := by decide +kernel
theorem dX5_meet_33 : decode cX5_meet 33 = .ok (.ifCond .eq 43, 3) := by decide +kernel
theorem dX5_meet_36 : decode cX5_meet 36 = .ok (.aload_n 0, 1) := by decide +kernel
theorem dX5_meet_37 : decode cX5_meet 37 = .ok (.iload_n 1, 1) := by decide +kernel
theorem dX5_meet_38 : decode cX5_meet 38 = .ok (.putfield 126, 3) := by decide +kernel
theorem dX5_meet_41 : decode cX5_meet 41 = .ok (.aload_n 0, 1) := by decide +kernel
theorem dX5_meet_42 : decode cX5_meet 42 = .ok (.bipush 10, 2) := by decide +kernel
theorem dX5_meet_44 : decode cX5_meet 44 = .ok (.iload_n 3, 1) := by decide +kernel
theorem dX5_meet_45 : decode cX5_meet 45 = .ok (.imul, 1) := by decide +kernel
theorem dX5_meet_46 : decode cX5_meet 46 = .ok (.iload_n 2, 1) := by decide +kernel
theorem dX5_meet_47 : decode cX5_meet 47 = .ok (.iadd, 1) := by decide +kernel
theorem dX5_meet_48 : decode cX5_meet 48 = .ok (.putfield 129, 3) := by decide +kernel
theorem dX5_meet_51 : decode cX5_meet 51 = .ok (.aload_n 0, 1) := by decide +kernel
theorem dX5_meet_52 : decode cX5_meet 52 = .ok (.dup, 1) := by decide +kernel
theorem dX5_meet_53 : decode cX5_meet 53 = .ok (.getfield 96, 3) := by decide +kernel
theorem dX5_meet_56 : decode cX5_meet 56 = .ok (.lconst 1, 1) := by decide +kernel
theorem dX5_meet_57 : decode cX5_meet 57 = .ok (.aload_n 0, 1) := by decide +kernel
theorem dX5_meet_58 : decode cX5_meet 58 = .ok (.getfield 129, 3) := by decide +kernel
theorem dX5_meet_61 : decode cX5_meet 61 = .ok (.lshl, 1) := by decide +kernel
theorem dX5_meet_62 : decode cX5_meet 62 = .ok (.lor, 1) := by decide +kernel
theorem dX5_meet_63 : decode cX5_meet 63 = .ok (.putfield 96, 3) := by decide +kernel
theorem dX5_meet_66 : decode cX5_meet 66 = .ok (.aload_n 0, 1) := by decide +kernel
theorem dX5_meet_67 : decode cX5_meet 67 = .ok (.dup, 1) := by decide +kernel
theorem dX5_meet_68 : decode cX5_meet 68 = .ok (.getfield 90, 3) := by decide +kernel
theorem dX5_meet_71 : decode cX5_meet 71 = .ok (.iconst 1, 1) := by decide +kernel
theorem dX5_meet_72 : decode cX5_meet 72 = .ok (.iadd, 1) := by decide +kernel
theorem dX5_meet_73 : decode cX5_meet 73 = .ok (.putfield 90, 3) := by decide +kernel
theorem dX5_meet_76 : decode cX5_meet 76 = .ok (.return_, 1) := by decide +kernel
theorem dX5_allHoldAt_0 : decode cX5_allHoldAt 0 = .ok (.iconst 0, 1) := by decide +kernel
theorem dX5_allHoldAt_1 : decode cX5_allHoldAt 1 = .ok (.istore_n 2, 1) := by decide +kernel
theorem dX5_allHoldAt_2 : decode cX5_allHoldAt 2 = .ok (.iload_n 2, 1) := by decide +kernel
theorem dX5_allHoldAt_3 : decode cX5_allHoldAt 3 = .ok (.aload_n 0, 1) := by decide +kernel
theorem dX5_allHoldAt_4 : decode cX5_allHoldAt 4 = .ok (.getfield 37, 3) := by decide +kernel
theorem dX5_allHoldAt_7 : decode cX5_allHoldAt 7 = .ok (.if_icmp .ge 29, 3) := by decide +kernel
theorem dX5_allHoldAt_10 : decode cX5_allHoldAt 10 = .ok (.aload_n 0, 1) := by decide +kernel
theorem dX5_allHoldAt_11 : decode cX5_allHoldAt 11 = .ok (.getfield 24, 3) := by decide +kernel
theorem dX5_allHoldAt_14 : decode cX5_allHoldAt 14 = .ok (.iload_n 2, 1) := by decide +kernel
theorem dX5_allHoldAt_15 : decode cX5_allHoldAt 15 = .ok (.iaload, 1) := by decide +kernel
theorem dX5_allHoldAt_16 : decode cX5_allHoldAt 16 = .ok (.iload_n 1, 1) := by decide +kernel
theorem dX5_allHoldAt_17 : decode cX5_allHoldAt 17 = .ok (.if_icmp .ne 13, 3) := by decide +kernel
theorem dX5_allHoldAt_20 : decode cX5_allHoldAt 20 = .ok (.aload_n 0, 1) := by decide +kernel
theorem dX5_allHoldAt_21 : decode cX5_allHoldAt 21 = .ok (.iload_n 2, 1) := by decide +kernel
theorem dX5_allHoldAt_22 : decode cX5_allHoldAt 22 = .ok (.invokevirtual 132, 3) := by decide +kernel
theorem dX5_allHoldAt_25 : decode cX5_allHoldAt 25 = .ok (.ifCond .ne 5, 3) := by decide +kernel
theorem dX5_allHoldAt_28 : decode cX5_allHoldAt 28 = .ok (.iconst 0, 1) := by decide +kernel
theorem dX5_allHoldAt_29 : decode cX5_allHoldAt 29 = .ok (.ireturn, 1) := by decide +kernel
theorem dX5_allHoldAt_30 : decode cX5_allHoldAt 30 = .ok (.iinc 2 1, 3) := by decide +kernel
theorem dX5_allHoldAt_33 : decode cX5_allHoldAt 33 = .ok (.goto (-31), 3) := by decide +kernel
theorem dX5_allHoldAt_36 : decode cX5_allHoldAt 36 = .ok (.iconst 1, 1) := by decide +kernel
theorem dX5_allHoldAt_37 : decode cX5_allHoldAt 37 = .ok (.ireturn, 1) := by decide +kernel
theorem dX5_holds_0 : decode cX5_holds 0 = .ok (.aload_n 0, 1) := by decide +kernel
theorem dX5_holds_1 : decode cX5_holds 1 = .ok (.aload_n 0, 1) := by decide +kernel
theorem dX5_holds_2 : decode cX5_holds 2 = .ok (.getfield 15, 3) := by decide +kernel
theorem dX5_holds_5 : decode cX5_holds 5 = .ok (.iload_n 1, 1) := by decide +kernel
theorem dX5_holds_6 : decode cX5_holds 6 = .ok (.iaload, 1) := by decide +kernel
theorem dX5_holds_7 : decode cX5_holds 7 = .ok (.invokevirtual 135, 3) := by decide +kernel
theorem dX5_holds_10 : decode cX5_holds 10 = .ok (.istore_n 2, 1) := by decide +kernel
theorem dX5_holds_11 : decode cX5_holds 11 = .ok (.aload_n 0, 1) := by decide +kernel
theorem dX5_holds_12 : decode cX5_holds 12 = .ok (.getfield 11, 3) := by decide +kernel
theorem dX5_holds_15 : decode cX5_holds 15 = .ok (.iload_n 1, 1) := by decide +kernel
theorem dX5_holds_16 : decode cX5_holds 16 = .ok (.iaload, 1) := by decide +kernel
theorem dX5_holds_17 : decode cX5_holds 17 = .ok (.tableswitch 159 0 4 #[35, 62, 89, 116, 132], 35) := by decide +kernel
theorem dX5_holds_52 : decode cX5_holds 52 = .ok (.iload_n 2, 1) := by decide +kernel
theorem dX5_holds_53 : decode cX5_holds 53 = .ok (.aload_n 0, 1) := by decide +kernel
theorem dX5_holds_54 : decode cX5_holds 54 = .ok (.aload_n 0, 1) := by decide +kernel
theorem dX5_holds_55 : decode cX5_holds 55 = .ok (.getfield 18, 3) := by decide +kernel
theorem dX5_holds_58 : decode cX5_holds 58 = .ok (.iload_n 1, 1) := by decide +kernel
theorem dX5_holds_59 : decode cX5_holds 59 = .ok (.iaload, 1) := by decide +kernel
theorem dX5_holds_60 : decode cX5_holds 60 = .ok (.invokevirtual 135, 3) := by decide +kernel
theorem dX5_holds_63 : decode cX5_holds 63 = .ok (.iadd, 1) := by decide +kernel
theorem dX5_holds_64 : decode cX5_holds 64 = .ok (.aload_n 0, 1) := by decide +kernel
theorem dX5_holds_65 : decode cX5_holds 65 = .ok (.getfield 21, 3) := by decide +kernel
theorem dX5_holds_68 : decode cX5_holds 68 = .ok (.iload_n 1, 1) := by decide +kernel
theorem dX5_holds_69 : decode cX5_holds 69 = .ok (.iaload, 1) := by decide +kernel
theorem dX5_holds_70 : decode cX5_holds 70 = .ok (.if_icmp .ne 7, 3) := by decide +kernel
theorem dX5_holds_73 : decode cX5_holds 73 = .ok (.iconst 1, 1) := by decide +kernel
theorem dX5_holds_74 : decode cX5_holds 74 = .ok (.goto 4, 3) := by decide +kernel
theorem dX5_holds_77 : decode cX5_holds 77 = .ok (.iconst 0, 1) := by decide +kernel
theorem dX5_holds_78 : decode cX5_holds 78 = .ok (.ireturn, 1) := by decide +kernel
theorem dX5_holds_79 : decode cX5_holds 79 = .ok (.iload_n 2, 1) := by decide +kernel
theorem dX5_holds_80 : decode cX5_holds 80 = .ok (.aload_n 0, 1) := by decide +kernel
theorem dX5_holds_81 : decode cX5_holds 81 = .ok (.aload_n 0, 1) := by decide +kernel
theorem dX5_holds_82 : decode cX5_holds 82 = .ok (.getfield 18, 3) := by decide +kernel
theorem dX5_holds_85 : decode cX5_holds 85 = .ok (.iload_n 1, 1) := by decide +kernel
theorem dX5_holds_86 : decode cX5_holds 86 = .ok (.iaload, 1) := by decide +kernel
theorem dX5_holds_87 : decode cX5_holds 87 = .ok (.invokevirtual 135, 3) := by decide +kernel
theorem dX5_holds_90 : decode cX5_holds 90 = .ok (.imul, 1) := by decide +kernel
theorem dX5_holds_91 : decode cX5_holds 91 = .ok (.aload_n 0, 1) := by decide +kernel
theorem dX5_holds_92 : decode cX5_holds 92 = .ok (.getfield 21, 3) := by decide +kernel
theorem dX5_holds_95 : decode cX5_holds 95 = .ok (.iload_n 1, 1) := by decide +kernel
theorem dX5_holds_96 : decode cX5_holds 96 = .ok (.iaload, 1) := by decide +kernel
theorem dX5_holds_97 : decode cX5_holds 97 = .ok (.if_icmp .ne 7, 3) := by decide +kernel
theorem dX5_holds_100 : decode cX5_holds 100 = .ok (.iconst 1, 1) := by decide +kernel
theorem dX5_holds_101 : decode cX5_holds 101 = .ok (.goto 4, 3) := by decide +kernel
theorem dX5_holds_104 : decode cX5_holds 104 = .ok (.iconst 0, 1) := by decide +kernel
theorem dX5_holds_105 : decode cX5_holds 105 = .ok (.ireturn, 1) := by decide +kernel
theorem dX5_holds_106 : decode cX5_holds 106 = .ok (.iload_n 2, 1) := by decide +kernel
theorem dX5_holds_107 : decode cX5_holds 107 = .ok (.aload_n 0, 1) := by decide +kernel
theorem dX5_holds_108 : decode cX5_holds 108 = .ok (.aload_n 0, 1) := by decide +kernel
theorem dX5_holds_109 : decode cX5_holds 109 = .ok (.getfield 18, 3) := by decide +kernel
theorem dX5_holds_112 : decode cX5_holds 112 = .ok (.iload_n 1, 1) := by decide +kernel
theorem dX5_holds_113 : decode cX5_holds 113 = .ok (.iaload, 1) := by decide +kernel
theorem dX5_holds_114 : decode cX5_holds 114 = .ok (.invokevirtual 135, 3) := by decide +kernel
theorem dX5_holds_117 : decode cX5_holds 117 = .ok (.isub, 1) := by decide +kernel
theorem dX5_holds_118 : decode cX5_holds 118 = .ok (.aload_n 0, 1) := by decide +kernel
theorem dX5_holds_119 : decode cX5_holds 119 = .ok (.getfield 21, 3) := by decide +kernel
theorem dX5_holds_122 : decode cX5_holds 122 = .ok (.iload_n 1, 1) := by decide +kernel
theorem dX5_holds_123 : decode cX5_holds 123 = .ok (.iaload, 1) := by decide +kernel
theorem dX5_holds_124 : decode cX5_holds 124 = .ok (.if_icmp .ne 7, 3) := by decide +kernel
theorem dX5_holds_127 : decode cX5_holds 127 = .ok (.iconst 1, 1) := by decide +kernel
theorem dX5_holds_128 : decode cX5_holds 128 = .ok (.goto 4, 3) := by decide +kernel
theorem dX5_holds_131 : decode cX5_holds 131 = .ok (.iconst 0, 1) := by decide +kernel
theorem dX5_holds_132 : decode cX5_holds 132 = .ok (.ireturn, 1) := by decide +kernel
theorem dX5_holds_133 : decode cX5_holds 133 = .ok (.iload_n 2, 1) := by decide +kernel
theorem dX5_holds_134 : decode cX5_holds 134 = .ok (.aload_n 0, 1) := by decide +kernel
theorem dX5_holds_135 : decode cX5_holds 135 = .ok (.getfield 21, 3) := by decide +kernel
theorem dX5_holds_138 : decode cX5_holds 138 = .ok (.iload_n 1, 1) := by decide +kernel
theorem dX5_holds_139 : decode cX5_holds 139 = .ok (.iaload, 1) := by decide +kernel
theorem dX5_holds_140 : decode cX5_holds 140 = .ok (.if_icmp .ne 7, 3) := by decide +kernel
theorem dX5_holds_143 : decode cX5_holds 143 = .ok (.iconst 1, 1) := by decide +kernel
theorem dX5_holds_144 : decode cX5_holds 144 = .ok (.goto 4, 3) := by decide +kernel
theorem dX5_holds_147 : decode cX5_holds 147 = .ok (.iconst 0, 1) := by decide +kernel
theorem dX5_holds_148 : decode cX5_holds 148 = .ok (.ireturn, 1) := by decide +kernel
theorem dX5_holds_149 : decode cX5_holds 149 = .ok (.iload_n 1, 1) := by decide +kernel
theorem dX5_holds_150 : decode cX5_holds 150 = .ok (.aload_n 0, 1) := by decide +kernel
theorem dX5_holds_151 : decode cX5_holds 151 = .ok (.getfield 27, 3) := by decide +kernel
theorem dX5_holds_154 : decode cX5_holds 154 = .ok (.if_icmp .ne 16, 3) := by decide +kernel
theorem dX5_holds_157 : decode cX5_holds 157 = .ok (.aload_n 0, 1) := by decide +kernel
theorem dX5_holds_158 : decode cX5_holds 158 = .ok (.iload_n 1, 1) := by decide +kernel
theorem dX5_holds_159 : decode cX5_holds 159 = .ok (.invokevirtual 118, 3) := by decide +kernel
theorem dX5_holds_162 : decode cX5_holds 162 = .ok (.bipush 10, 2) := by decide +kernel
theorem dX5_holds_164 : decode cX5_holds 164 = .ok (.invokestatic 122, 3) := by decide +kernel
theorem dX5_holds_167 : decode cX5_holds 167 = .ok (.ifCond .eq 7, 3) := by decide +kernel
theorem dX5_holds_170 : decode cX5_holds 170 = .ok (.iconst 1, 1) := by decide +kernel
theorem dX5_holds_171 : decode cX5_holds 171 = .ok (.goto 4, 3) := by decide +kernel
theorem dX5_holds_174 : decode cX5_holds 174 = .ok (.iconst 0, 1) := by decide +kernel
theorem dX5_holds_175 : decode cX5_holds 175 = .ok (.ireturn, 1) := by decide +kernel
theorem dX5_holds_176 : decode cX5_holds 176 = .ok (.iload_n 1, 1) := by decide +kernel
theorem dX5_holds_177 : decode cX5_holds 177 = .ok (.aload_n 0, 1) := by decide +kernel
theorem dX5_holds_178 : decode cX5_holds 178 = .ok (.getfield 31, 3) := by decide +kernel
theorem dX5_holds_181 : decode cX5_holds 181 = .ok (.if_icmp .ne 16, 3) := by decide +kernel
theorem dX5_holds_184 : decode cX5_holds 184 = .ok (.aload_n 0, 1) := by decide +kernel
theorem dX5_holds_185 : decode cX5_holds 185 = .ok (.iload_n 1, 1) := by decide +kernel
theorem dX5_holds_186 : decode cX5_holds 186 = .ok (.invokevirtual 118, 3) := by decide +kernel
theorem dX5_holds_189 : decode cX5_holds 189 = .ok (.bipush 6, 2) := by decide +kernel
theorem dX5_holds_191 : decode cX5_holds 191 = .ok (.invokestatic 122, 3) := by decide +kernel
theorem dX5_holds_194 : decode cX5_holds 194 = .ok (.ifCond .eq 7, 3) := by decide +kernel
theorem dX5_holds_197 : decode cX5_holds 197 = .ok (.iconst 1, 1) := by decide +kernel
theorem dX5_holds_198 : decode cX5_holds 198 = .ok (.goto 4, 3) := by decide +kernel
theorem dX5_holds_201 : decode cX5_holds 201 = .ok (.iconst 0, 1) := by decide +kernel
theorem dX5_holds_202 : decode cX5_holds 202 = .ok (.ireturn, 1) := by decide +kernel
theorem dX5_isWithin_0 : decode cX5_isWithin 0 = .ok (.iload_n 0, 1) := by decide +kernel
theorem dX5_isWithin_1 : decode cX5_isWithin 1 = .ok (.ifCond .lt 12, 3) := by decide +kernel
theorem dX5_isWithin_4 : decode cX5_isWithin 4 = .ok (.iload_n 0, 1) := by decide +kernel
theorem dX5_isWithin_5 : decode cX5_isWithin 5 = .ok (.iload_n 1, 1) := by decide +kernel
theorem dX5_isWithin_6 : decode cX5_isWithin 6 = .ok (.if_icmp .ge 7, 3) := by decide +kernel
theorem dX5_isWithin_9 : decode cX5_isWithin 9 = .ok (.iconst 1, 1) := by decide +kernel
theorem dX5_isWithin_10 : decode cX5_isWithin 10 = .ok (.goto 4, 3) := by decide +kernel
theorem dX5_isWithin_13 : decode cX5_isWithin 13 = .ok (.iconst 0, 1) := by decide +kernel
theorem dX5_isWithin_14 : decode cX5_isWithin 14 = .ok (.ireturn, 1) := by decide +kernel
theorem dX5_coordinate_0 : decode cX5_coordinate 0 = .ok (.iload_n 1, 1) := by decide +kernel
theorem dX5_coordinate_1 : decode cX5_coordinate 1 = .ok (.ifCond .lt 9, 3) := by decide +kernel
theorem dX5_coordinate_4 : decode cX5_coordinate 4 = .ok (.iload_n 1, 1) := by decide +kernel
theorem dX5_coordinate_5 : decode cX5_coordinate 5 = .ok (.bipush 8, 2) := by decide +kernel
theorem dX5_coordinate_7 : decode cX5_coordinate 7 = .ok (.if_icmp .lt 5, 3) := by decide +kernel
theorem dX5_coordinate_10 : decode cX5_coordinate 10 = .ok (.iconst (-1), 1) := by decide +kernel
theorem dX5_coordinate_11 : decode cX5_coordinate 11 = .ok (.ireturn, 1) := by decide +kernel
theorem dX5_coordinate_12 : decode cX5_coordinate 12 = .ok (.aload_n 0, 1) := by decide +kernel
theorem dX5_coordinate_13 : decode cX5_coordinate 13 = .ok (.getfield 15, 3) := by decide +kernel
theorem dX5_coordinate_16 : decode cX5_coordinate 16 = .ok (.iload_n 1, 1) := by decide +kernel
theorem dX5_coordinate_17 : decode cX5_coordinate 17 = .ok (.iaload, 1) := by decide +kernel
theorem dX5_coordinate_18 : decode cX5_coordinate 18 = .ok (.bipush 6, 2) := by decide +kernel
theorem dX5_coordinate_20 : decode cX5_coordinate 20 = .ok (.if_icmp .ne 12, 3) := by decide +kernel
theorem dX5_coordinate_23 : decode cX5_coordinate 23 = .ok (.aload_n 0, 1) := by decide +kernel
theorem dX5_coordinate_24 : decode cX5_coordinate 24 = .ok (.getfield 21, 3) := by decide +kernel
theorem dX5_coordinate_27 : decode cX5_coordinate 27 = .ok (.iload_n 1, 1) := by decide +kernel
theorem dX5_coordinate_28 : decode cX5_coordinate 28 = .ok (.iaload, 1) := by decide +kernel
theorem dX5_coordinate_29 : decode cX5_coordinate 29 = .ok (.goto 20, 3) := by decide +kernel
theorem dX5_coordinate_32 : decode cX5_coordinate 32 = .ok (.aload_n 0, 1) := by decide +kernel
theorem dX5_coordinate_33 : decode cX5_coordinate 33 = .ok (.aload_n 0, 1) := by decide +kernel
theorem dX5_coordinate_34 : decode cX5_coordinate 34 = .ok (.getfield 15, 3) := by decide +kernel
theorem dX5_coordinate_37 : decode cX5_coordinate 37 = .ok (.iload_n 1, 1) := by decide +kernel
theorem dX5_coordinate_38 : decode cX5_coordinate 38 = .ok (.iaload, 1) := by decide +kernel
theorem dX5_coordinate_39 : decode cX5_coordinate 39 = .ok (.invokevirtual 135, 3) := by decide +kernel
theorem dX5_coordinate_42 : decode cX5_coordinate 42 = .ok (.aload_n 0, 1) := by decide +kernel
theorem dX5_coordinate_43 : decode cX5_coordinate 43 = .ok (.getfield 21, 3) := by decide +kernel
theorem dX5_coordinate_46 : decode cX5_coordinate 46 = .ok (.iload_n 1, 1) := by decide +kernel
theorem dX5_coordinate_47 : decode cX5_coordinate 47 = .ok (.iaload, 1) := by decide +kernel
theorem dX5_coordinate_48 : decode cX5_coordinate 48 = .ok (.isub, 1) := by decide +kernel
theorem dX5_coordinate_49 : decode cX5_coordinate 49 = .ok (.ireturn, 1) := by decide +kernel
theorem dX5_digitOf_0 : decode cX5_digitOf 0 = .ok (.iload_n 1, 1) := by decide +kernel
theorem dX5_digitOf_1 : decode cX5_digitOf 1 = .ok (.ifCond .lt 9, 3) := by decide +kernel
theorem dX5_digitOf_4 : decode cX5_digitOf 4 = .ok (.iload_n 1, 1) := by decide +kernel
theorem dX5_digitOf_5 : decode cX5_digitOf 5 = .ok (.bipush 6, 2) := by decide +kernel
theorem dX5_digitOf_7 : decode cX5_digitOf 7 = .ok (.if_icmp .lt 7, 3) := by decide +kernel
theorem dX5_digitOf_10 : decode cX5_digitOf 10 = .ok (.iconst 0, 1) := by decide +kernel
theorem dX5_digitOf_11 : decode cX5_digitOf 11 = .ok (.goto 9, 3) := by decide +kernel
theorem dX5_digitOf_14 : decode cX5_digitOf 14 = .ok (.aload_n 0, 1) := by decide +kernel
theorem dX5_digitOf_15 : decode cX5_digitOf 15 = .ok (.getfield 34, 3) := by decide +kernel
theorem dX5_digitOf_18 : decode cX5_digitOf 18 = .ok (.iload_n 1, 1) := by decide +kernel
theorem dX5_digitOf_19 : decode cX5_digitOf 19 = .ok (.iaload, 1) := by decide +kernel
theorem dX5_digitOf_20 : decode cX5_digitOf 20 = .ok (.ireturn, 1) := by decide +kernel
theorem dX6_init_0 : decode cX6_init 0 = .ok (.aload_n 0, 1) := by decide +kernel
theorem dX6_init_1 : decode cX6_init 1 = .ok (.invokespecial 3, 3) := by decide +kernel
theorem dX6_init_4 : decode cX6_init 4 = .ok (.aload_n 0, 1) := by decide +kernel
theorem dX6_init_5 : decode cX6_init 5 = .ok (.new 9, 3) := by decide +kernel
theorem dX6_init_8 : decode cX6_init 8 = .ok (.dup, 1) := by decide +kernel
theorem dX6_init_9 : decode cX6_init 9 = .ok (.invokespecial 11, 3) := by decide +kernel
theorem dX6_init_12 : decode cX6_init 12 = .ok (.putfield 12, 3) := by decide +kernel
theorem dX6_init_15 : decode cX6_init 15 = .ok (.aload_n 0, 1) := by decide +kernel
theorem dX6_init_16 : decode cX6_init 16 = .ok (.iconst (-1), 1) := by decide +kernel
theorem dX6_init_17 : decode cX6_init 17 = .ok (.putfield 18, 3) := by decide +kernel
theorem dX6_init_20 : decode cX6_init 20 = .ok (.aload_n 0, 1) := by decide +kernel
theorem dX6_init_21 : decode cX6_init 21 = .ok (.bipush 20, 2) := by decide +kernel
theorem dX6_init_23 : decode cX6_init 23 = .ok (.newarray .int, 2) := by decide +kernel
theorem dX6_init_25 : decode cX6_init 25 = .ok (.putfield 22, 3) := by decide +kernel
theorem dX6_init_28 : decode cX6_init 28 = .ok (.aload_n 0, 1) := by decide +kernel
theorem dX6_init_29 : decode cX6_init 29 = .ok (.bipush 20, 2) := by decide +kernel
theorem dX6_init_31 : decode cX6_init 31 = .ok (.newarray .int, 2) := by decide +kernel
theorem dX6_init_33 : decode cX6_init 33 = .ok (.putfield 26, 3) := by decide +kernel
theorem dX6_init_36 : decode cX6_init 36 = .ok (.aload_n 0, 1) := by decide +kernel
theorem dX6_init_37 : decode cX6_init 37 = .ok (.bipush 20, 2) := by decide +kernel
theorem dX6_init_39 : decode cX6_init 39 = .ok (.newarray .int, 2) := by decide +kernel
theorem dX6_init_41 : decode cX6_init 41 = .ok (.putfield 29, 3) := by decide +kernel
theorem dX6_init_44 : decode cX6_init 44 = .ok (.aload_n 0, 1) := by decide +kernel
theorem dX6_init_45 : decode cX6_init 45 = .ok (.sipush 3220, 3) := by decide +kernel
theorem dX6_init_48 : decode cX6_init 48 = .ok (.newarray .int, 2) := by decide +kernel
theorem dX6_init_50 : decode cX6_init 50 = .ok (.putfield 32, 3) := by decide +kernel
theorem dX6_init_53 : decode cX6_init 53 = .ok (.aload_n 0, 1) := by decide +kernel
theorem dX6_init_54 : decode cX6_init 54 = .ok (.bipush 20, 2) := by decide +kernel
theorem dX6_init_56 : decode cX6_init 56 = .ok (.newarray .int, 2) := by decide +kernel
theorem dX6_init_58 : decode cX6_init 58 = .ok (.putfield 35, 3) := by decide +kernel
theorem dX6_init_61 : decode cX6_init 61 = .ok (.aload_n 0, 1) := by decide +kernel
theorem dX6_init_62 : decode cX6_init 62 = .ok (.bipush 64, 2) := by decide +kernel
theorem dX6_init_64 : decode cX6_init 64 = .ok (.newarray .int, 2) := by decide +kernel
theorem dX6_init_66 : decode cX6_init 66 = .ok (.putfield 38, 3) := by decide +kernel
theorem dX6_init_69 : decode cX6_init 69 = .ok (.aload_n 0, 1) := by decide +kernel
theorem dX6_init_70 : decode cX6_init 70 = .ok (.aload_n 1, 1) := by decide +kernel
theorem dX6_init_71 : decode cX6_init 71 = .ok (.putfield 41, 3) := by decide +kernel
theorem dX6_init_74 : decode cX6_init 74 = .ok (.return_, 1) := by decide +kernel
theorem dX6_isFull_0 : decode cX6_isFull 0 = .ok (.aload_n 0, 1) := by decide +kernel
theorem dX6_isFull_1 : decode cX6_isFull 1 = .ok (.getfield 45, 3) := by decide +kernel
theorem dX6_isFull_4 : decode cX6_isFull 4 = .ok (.bipush 20, 2) := by decide +kernel
theorem dX6_isFull_6 : decode cX6_isFull 6 = .ok (.if_icmp .lt 7, 3) := by decide +kernel
theorem dX6_isFull_9 : decode cX6_isFull 9 = .ok (.iconst 1, 1) := by decide +kernel
theorem dX6_isFull_10 : decode cX6_isFull 10 = .ok (.goto 4, 3) := by decide +kernel
theorem dX6_isFull_13 : decode cX6_isFull 13 = .ok (.iconst 0, 1) := by decide +kernel
theorem dX6_isFull_14 : decode cX6_isFull 14 = .ok (.ireturn, 1) := by decide +kernel
theorem dX6_isOf_0 : decode cX6_isOf 0 = .ok (.iload_n 1, 1) := by decide +kernel
theorem dX6_isOf_1 : decode cX6_isOf 1 = .ok (.ifCond .lt 25, 3) := by decide +kernel
theorem dX6_isOf_4 : decode cX6_isOf 4 = .ok (.iload_n 1, 1) := by decide +kernel
theorem dX6_isOf_5 : decode cX6_isOf 5 = .ok (.aload_n 0, 1) := by decide +kernel
theorem dX6_isOf_6 : decode cX6_isOf 6 = .ok (.getfield 45, 3) := by decide +kernel
theorem dX6_isOf_9 : decode cX6_isOf 9 = .ok (.if_icmp .ge 17, 3) := by decide +kernel
theorem dX6_isOf_12 : decode cX6_isOf 12 = .ok (.aload_n 0, 1) := by decide +kernel
theorem dX6_isOf_13 : decode cX6_isOf 13 = .ok (.getfield 22, 3) := by decide +kernel
theorem dX6_isOf_16 : decode cX6_isOf 16 = .ok (.iload_n 1, 1) := by decide +kernel
theorem dX6_isOf_17 : decode cX6_isOf 17 = .ok (.iaload, 1) := by decide +kernel
theorem dX6_isOf_18 : decode cX6_isOf 18 = .ok (.iload_n 2, 1) := by decide +kernel
theorem dX6_isOf_19 : decode cX6_isOf 19 = .ok (.if_icmp .ne 7, 3) := by decide +kernel
theorem dX6_isOf_22 : decode cX6_isOf 22 = .ok (.iconst 1, 1) := by decide +kernel
theorem dX6_isOf_23 : decode cX6_isOf 23 = .ok (.goto 4, 3) := by decide +kernel
theorem dX6_isOf_26 : decode cX6_isOf 26 = .ok (.iconst 0, 1) := by decide +kernel
theorem dX6_isOf_27 : decode cX6_isOf 27 = .ok (.ireturn, 1) := by decide +kernel
theorem dX6_make_0 : decode cX6_make 0 = .ok (.aload_n 0, 1) := by decide +kernel
theorem dX6_make_1 : decode cX6_make 1 = .ok (.getfield 12, 3) := by decide +kernel
theorem dX6_make_4 : decode cX6_make 4 = .ok (.invokevirtual 48, 3) := by decide +kernel
theorem dX6_make_7 : decode cX6_make 7 = .ok (.istore_n 3, 1) := by decide +kernel
theorem dX6_make_8 : decode cX6_make 8 = .ok (.aload_n 0, 1) := by decide +kernel
theorem dX6_make_9 : decode cX6_make 9 = .ok (.getfield 12, 3) := by decide +kernel
theorem dX6_make_12 : decode cX6_make 12 = .ok (.iconst 0, 1) := by decide +kernel
theorem dX6_make_13 : decode cX6_make 13 = .ok (.putfield 52, 3) := by decide +kernel
theorem dX6_make_16 : decode cX6_make 16 = .ok (.iload_n 3, 1) := by decide +kernel
theorem dX6_make_17 : decode cX6_make 17 = .ok (.ifCond .lt 8, 3) := by decide +kernel
theorem dX6_make_20 : decode cX6_make 20 = .ok (.bipush (-100), 2) := by decide +kernel
theorem dX6_make_22 : decode cX6_make 22 = .ok (.iload_n 3, 1) := by decide +kernel
theorem dX6_make_23 : decode cX6_make 23 = .ok (.isub, 1) := by decide +kernel
theorem dX6_make_24 : decode cX6_make 24 = .ok (.ireturn, 1) := by decide +kernel
theorem dX6_make_25 : decode cX6_make 25 = .ok (.aload_n 0, 1) := by decide +kernel
theorem dX6_make_26 : decode cX6_make 26 = .ok (.getfield 22, 3) := by decide +kernel
theorem dX6_make_29 : decode cX6_make 29 = .ok (.aload_n 0, 1) := by decide +kernel
theorem dX6_make_30 : decode cX6_make 30 = .ok (.getfield 45, 3) := by decide +kernel
theorem dX6_make_33 : decode cX6_make 33 = .ok (.iload_n 1, 1) := by decide +kernel
theorem dX6_make_34 : decode cX6_make 34 = .ok (.iastore, 1) := by decide +kernel
theorem dX6_make_35 : decode cX6_make 35 = .ok (.aload_n 0, 1) := by decide +kernel
theorem dX6_make_36 : decode cX6_make 36 = .ok (.getfield 26, 3) := by decide +kernel
theorem dX6_make_39 : decode cX6_make 39 = .ok (.aload_n 0, 1) := by decide +kernel
theorem dX6_make_40 : decode cX6_make 40 = .ok (.getfield 45, 3) := by decide +kernel
theorem dX6_make_43 : decode cX6_make 43 = .ok (.aload_n 0, 1) := by decide +kernel
theorem dX6_make_44 : decode cX6_make 44 = .ok (.getfield 41, 3) := by decide +kernel
theorem dX6_make_47 : decode cX6_make 47 = .ok (.getfield 55, 3) := by decide +kernel
theorem dX6_make_50 : decode cX6_make 50 = .ok (.iastore, 1) := by decide +kernel
theorem dX6_make_51 : decode cX6_make 51 = .ok (.aload_n 0, 1) := by decide +kernel
theorem dX6_make_52 : decode cX6_make 52 = .ok (.getfield 29, 3) := by decide +kernel
theorem dX6_make_55 : decode cX6_make 55 = .ok (.aload_n 0, 1) := by decide +kernel
theorem dX6_make_56 : decode cX6_make 56 = .ok (.getfield 45, 3) := by decide +kernel
theorem dX6_make_59 : decode cX6_make 59 = .ok (.iload_n 2, 1) := by decide +kernel
theorem dX6_make_60 : decode cX6_make 60 = .ok (.iastore, 1) := by decide +kernel
theorem dX6_make_61 : decode cX6_make 61 = .ok (.aload_n 0, 1) := by decide +kernel
theorem dX6_make_62 : decode cX6_make 62 = .ok (.getfield 35, 3) := by decide +kernel
theorem dX6_make_65 : decode cX6_make 65 = .ok (.aload_n 0, 1) := by decide +kernel
theorem dX6_make_66 : decode cX6_make 66 = .ok (.getfield 45, 3) := by decide +kernel
theorem dX6_make_69 : decode cX6_make 69 = .ok (.aload_n 0, 1) := by decide +kernel
theorem dX6_make_70 : decode cX6_make 70 = .ok (.getfield 12, 3) := by decide +kernel
theorem dX6_make_73 : decode cX6_make 73 = .ok (.aload_n 0, 1) := by decide +kernel
theorem dX6_make_74 : decode cX6_make 74 = .ok (.getfield 32, 3) := by decide +kernel
theorem dX6_make_77 : decode cX6_make 77 = .ok (.aload_n 0, 1) := by decide +kernel
theorem dX6_make_78 : decode cX6_make 78 = .ok (.getfield 45, 3) := by decide +kernel
theorem dX6_make_81 : decode cX6_make 81 = .ok (.sipush 161, 3) := by decide +kernel
theorem dX6_make_84 : decode cX6_make 84 = .ok (.imul, 1) := by decide +kernel
theorem dX6_make_85 : decode cX6_make 85 = .ok (.invokevirtual 60, 3) := by decide +kernel
theorem dX6_make_88 : decode cX6_make 88 = .ok (.iastore, 1) := by decide +kernel
theorem dX6_make_89 : decode cX6_make 89 = .ok (.aload_n 0, 1) := by decide +kernel
theorem dX6_make_90 : decode cX6_make 90 = .ok (.dup, 1) := by decide +kernel
theorem dX6_make_91 : decode cX6_make 91 = .ok (.getfield 45, 3) := by decide +kernel
theorem dX6_make_94 : decode cX6_make 94 = .ok (.iconst 1, 1) := by decide +kernel
theorem dX6_make_95 : decode cX6_make 95 = .ok (.iadd, 1) := by decide +kernel
theorem dX6_make_96 : decode cX6_make 96 = .ok (.putfield 45, 3) := by decide +kernel
theorem dX6_make_99 : decode cX6_make 99 = .ok (.aload_n 0, 1) := by decide +kernel
theorem dX6_make_100 : decode cX6_make 100 = .ok (.getfield 45, 3) := by decide +kernel
theorem dX6_make_103 : decode cX6_make 103 = .ok (.iconst 1, 1) := by decide +kernel
theorem dX6_make_104 : decode cX6_make 104 = .ok (.isub, 1) := by decide +kernel
theorem dX6_make_105 : decode cX6_make 105 = .ok (.ireturn, 1) := by decide +kernel
theorem dX6_ruleFor_0 : decode cX6_ruleFor 0 = .ok (.aload_n 0, 1) := by decide +kernel
theorem dX6_ruleFor_1 : decode cX6_ruleFor 1 = .ok (.getfield 45, 3) := by decide +kernel
theorem dX6_ruleFor_4 : decode cX6_ruleFor 4 = .ok (.iconst 1, 1) := by decide +kernel
theorem dX6_ruleFor_5 : decode cX6_ruleFor 5 = .ok (.isub, 1) := by decide +kernel
theorem dX6_ruleFor_6 : decode cX6_ruleFor 6 = .ok (.istore 4, 2) := by decide +kernel
theorem dX6_ruleFor_8 : decode cX6_ruleFor 8 = .ok (.iload 4, 2) := by decide +kernel
theorem dX6_ruleFor_10 : decode cX6_ruleFor 10 = .ok (.ifCond .lt 45, 3) := by decide +kernel
theorem dX6_ruleFor_13 : decode cX6_ruleFor 13 = .ok (.aload_n 0, 1) := by decide +kernel
theorem dX6_ruleFor_14 : decode cX6_ruleFor 14 = .ok (.getfield 22, 3) := by decide +kernel
theorem dX6_ruleFor_17 : decode cX6_ruleFor 17 = .ok (.iload 4, 2) := by decide +kernel
theorem dX6_ruleFor_19 : decode cX6_ruleFor 19 = .ok (.iaload, 1) := by decide +kernel
theorem dX6_ruleFor_20 : decode cX6_ruleFor 20 = .ok (.iload_n 1, 1) := by decide +kernel
theorem dX6_ruleFor_21 : decode cX6_ruleFor 21 = .ok (.if_icmp .ne 28, 3) := by decide +kernel
theorem dX6_ruleFor_24 : decode cX6_ruleFor 24 = .ok (.aload_n 0, 1) := by decide +kernel
theorem dX6_ruleFor_25 : decode cX6_ruleFor 25 = .ok (.getfield 26, 3) := by decide +kernel
theorem dX6_ruleFor_28 : decode cX6_ruleFor 28 = .ok (.iload 4, 2) := by decide +kernel
theorem dX6_ruleFor_30 : decode cX6_ruleFor 30 = .ok (.iaload, 1) := by decide +kernel
theorem dX6_ruleFor_31 : decode cX6_ruleFor 31 = .ok (.iload_n 3, 1) := by decide +kernel
theorem dX6_ruleFor_32 : decode cX6_ruleFor 32 = .ok (.if_icmp .gt 17, 3) := by decide +kernel
theorem dX6_ruleFor_35 : decode cX6_ruleFor 35 = .ok (.aload_n 0, 1) := by decide +kernel
theorem dX6_ruleFor_36 : decode cX6_ruleFor 36 = .ok (.getfield 29, 3) := by decide +kernel
theorem dX6_ruleFor_39 : decode cX6_ruleFor 39 = .ok (.iload 4, 2) := by decide +kernel
theorem dX6_ruleFor_41 : decode cX6_ruleFor 41 = .ok (.iaload, 1) := by decide +kernel
theorem dX6_ruleFor_42 : decode cX6_ruleFor 42 = .ok (.iload_n 2, 1) := by decide +kernel
theorem dX6_ruleFor_43 : decode cX6_ruleFor 43 = .ok (.if_icmp .gt 6, 3) := by decide +kernel
theorem dX6_ruleFor_46 : decode cX6_ruleFor 46 = .ok (.iload 4, 2) := by decide +kernel
theorem dX6_ruleFor_48 : decode cX6_ruleFor 48 = .ok (.ireturn, 1) := by decide +kernel
theorem dX6_ruleFor_49 : decode cX6_ruleFor 49 = .ok (.iinc 4 (-1), 3) := by decide +kernel
theorem dX6_ruleFor_52 : decode cX6_ruleFor 52 = .ok (.goto (-44), 3) := by decide +kernel
theorem dX6_ruleFor_55 : decode cX6_ruleFor 55 = .ok (.iconst (-1), 1) := by decide +kernel
theorem dX6_ruleFor_56 : decode cX6_ruleFor 56 = .ok (.ireturn, 1) := by decide +kernel
theorem dX6_askForBox_0 : decode cX6_askForBox 0 = .ok (.aload_n 0, 1) := by decide +kernel
theorem dX6_askForBox_1 : decode cX6_askForBox 1 = .ok (.iload_n 1, 1) := by decide +kernel
theorem dX6_askForBox_2 : decode cX6_askForBox 2 = .ok (.putfield 64, 3) := by decide +kernel
theorem dX6_askForBox_5 : decode cX6_askForBox 5 = .ok (.aload_n 0, 1) := by decide +kernel
theorem dX6_askForBox_6 : decode cX6_askForBox 6 = .ok (.aload_n 2, 1) := by decide +kernel
theorem dX6_askForBox_7 : decode cX6_askForBox 7 = .ok (.putfield 67, 3) := by decide +kernel
theorem dX6_askForBox_10 : decode cX6_askForBox 10 = .ok (.aload_n 0, 1) := by decide +kernel
theorem dX6_askForBox_11 : decode cX6_askForBox 11 = .ok (.aload_n 3, 1) := by decide +kernel
theorem dX6_askForBox_12 : decode cX6_askForBox 12 = .ok (.putfield 71, 3) := by decide +kernel
theorem dX6_askForBox_15 : decode cX6_askForBox 15 = .ok (.aload_n 0, 1) := by decide +kernel
theorem dX6_askForBox_16 : decode cX6_askForBox 16 = .ok (.aload_n 3, 1) := by decide +kernel
theorem dX6_askForBox_17 : decode cX6_askForBox 17 = .ok (.ifnonnull 7, 3) := by decide +kernel
theorem dX6_askForBox_20 : decode cX6_askForBox 20 = .ok (.iconst 0, 1) := by decide +kernel
theorem dX6_askForBox_21 : decode cX6_askForBox 21 = .ok (.goto 7, 3) := by decide +kernel
theorem dX6_askForBox_24 : decode cX6_askForBox 24 = .ok (.aload_n 3, 1) := by decide +kernel
theorem dX6_askForBox_25 : decode cX6_askForBox 25 = .ok (.getfield 75, 3) := by decide +kernel
theorem dX6_askForBox_28 : decode cX6_askForBox 28 = .ok (.putfield 80, 3) := by decide +kernel
theorem dX6_askForBox_31 : decode cX6_askForBox 31 = .ok (.aload_n 0, 1) := by decide +kernel
theorem dX6_askForBox_32 : decode cX6_askForBox 32 = .ok (.aload_n 3, 1) := by decide +kernel
theorem dX6_askForBox_33 : decode cX6_askForBox 33 = .ok (.ifnonnull 7, 3) := by decide +kernel
theorem dX6_askForBox_36 : decode cX6_askForBox 36 = .ok (.iconst (-1), 1) := by decide +kernel
theorem dX6_askForBox_37 : decode cX6_askForBox 37 = .ok (.goto 7, 3) := by decide +kernel
theorem dX6_askForBox_40 : decode cX6_askForBox 40 = .ok (.aload_n 3, 1) := by decide +kernel
theorem dX6_askForBox_41 : decode cX6_askForBox 41 = .ok (.getfield 83, 3) := by decide +kernel
theorem dX6_askForBox_44 : decode cX6_askForBox 44 = .ok (.putfield 86, 3) := by decide +kernel
theorem dX6_askForBox_47 : decode cX6_askForBox 47 = .ok (.aload_n 0, 1) := by decide +kernel
theorem dX6_askForBox_48 : decode cX6_askForBox 48 = .ok (.iload 4, 2) := by decide +kernel
theorem dX6_askForBox_50 : decode cX6_askForBox 50 = .ok (.putfield 89, 3) := by decide +kernel
theorem dX6_askForBox_53 : decode cX6_askForBox 53 = .ok (.return_, 1) := by decide +kernel
theorem dX6_askForKind_0 : decode cX6_askForKind 0 = .ok (.aload_n 0, 1) := by decide +kernel
theorem dX6_askForKind_1 : decode cX6_askForKind 1 = .ok (.iload_n 1, 1) := by decide +kernel
theorem dX6_askForKind_2 : decode cX6_askForKind 2 = .ok (.putfield 64, 3) := by decide +kernel
theorem dX6_askForKind_5 : decode cX6_askForKind 5 = .ok (.aload_n 0, 1) := by decide +kernel
theorem dX6_askForKind_6 : decode cX6_askForKind 6 = .ok (.aload_n 2, 1) := by decide +kernel
theorem dX6_askForKind_7 : decode cX6_askForKind 7 = .ok (.putfield 67, 3) := by decide +kernel
theorem dX6_askForKind_10 : decode cX6_askForKind 10 = .ok (.aload_n 0, 1) := by decide +kernel
theorem dX6_askForKind_11 : decode cX6_askForKind 11 = .ok (.aconst_null, 1) := by decide +kernel
theorem dX6_askForKind_12 : decode cX6_askForKind 12 = .ok (.putfield 71, 3) := by decide +kernel
theorem dX6_askForKind_15 : decode cX6_askForKind 15 = .ok (.aload_n 0, 1) := by decide +kernel
theorem dX6_askForKind_16 : decode cX6_askForKind 16 = .ok (.iload_n 3, 1) := by decide +kernel
theorem dX6_askForKind_17 : decode cX6_askForKind 17 = .ok (.putfield 80, 3) := by decide +kernel
theorem dX6_askForKind_20 : decode cX6_askForKind 20 = .ok (.aload_n 0, 1) := by decide +kernel
theorem dX6_askForKind_21 : decode cX6_askForKind 21 = .ok (.iload 4, 2) := by decide +kernel
theorem dX6_askForKind_23 : decode cX6_askForKind 23 = .ok (.putfield 86, 3) := by decide +kernel
theorem dX6_askForKind_26 : decode cX6_askForKind 26 = .ok (.aload_n 0, 1) := by decide +kernel
theorem dX6_askForKind_27 : decode cX6_askForKind 27 = .ok (.iconst 0, 1) := by decide +kernel
theorem dX6_askForKind_28 : decode cX6_askForKind 28 = .ok (.putfield 89, 3) := by decide +kernel
theorem dX6_askForKind_31 : decode cX6_askForKind 31 = .ok (.return_, 1) := by decide +kernel
theorem dX6_answer_0 : decode cX6_answer 0 = .ok (.aload_n 0, 1) := by decide +kernel
theorem dX6_answer_1 : decode cX6_answer 1 = .ok (.iload_n 1, 1) := by decide +kernel
theorem dX6_answer_2 : decode cX6_answer 2 = .ok (.iload_n 2, 1) := by decide +kernel
theorem dX6_answer_3 : decode cX6_answer 3 = .ok (.aload_n 0, 1) := by decide +kernel
theorem dX6_answer_4 : decode cX6_answer 4 = .ok (.getfield 41, 3) := by decide +kernel
theorem dX6_answer_7 : decode cX6_answer 7 = .ok (.getfield 55, 3) := by decide +kernel
theorem dX6_answer_10 : decode cX6_answer 10 = .ok (.invokevirtual 92, 3) := by decide +kernel
theorem dX6_answer_13 : decode cX6_answer 13 = .ok (.istore_n 3, 1) := by decide +kernel
theorem dX6_answer_14 : decode cX6_answer 14 = .ok (.iload_n 3, 1) := by decide +kernel
theorem dX6_answer_15 : decode cX6_answer 15 = .ok (.ifCond .ge 30, 3) := by decide +kernel
theorem dX6_answer_18 : decode cX6_answer 18 = .ok (.aload_n 0, 1) := by decide +kernel
theorem dX6_answer_19 : decode cX6_answer 19 = .ok (.iconst (-1), 1) := by decide +kernel
theorem dX6_answer_20 : decode cX6_answer 20 = .ok (.putfield 18, 3) := by decide +kernel
theorem dX6_answer_23 : decode cX6_answer 23 = .ok (.iload_n 1, 1) := by decide +kernel
theorem dX6_answer_24 : decode cX6_answer 24 = .ok (.ifCond .lt 19, 3) := by decide +kernel
theorem dX6_answer_27 : decode cX6_answer 27 = .ok (.iload_n 1, 1) := by decide +kernel
theorem dX6_answer_28 : decode cX6_answer 28 = .ok (.getstatic 96, 3) := by decide +kernel
theorem dX6_answer_31 : decode cX6_answer 31 = .ok (.arraylength, 1) := by decide +kernel
theorem dX6_answer_32 : decode cX6_answer 32 = .ok (.if_icmp .ge 11, 3) := by decide +kernel
theorem dX6_answer_35 : decode cX6_answer 35 = .ok (.getstatic 96, 3) := by decide +kernel
theorem dX6_answer_38 : decode cX6_answer 38 = .ok (.iload_n 1, 1) := by decide +kernel
theorem dX6_answer_39 : decode cX6_answer 39 = .ok (.iaload, 1) := by decide +kernel
theorem dX6_answer_40 : decode cX6_answer 40 = .ok (.goto 4, 3) := by decide +kernel
theorem dX6_answer_43 : decode cX6_answer 43 = .ok (.iconst 0, 1) := by decide +kernel
theorem dX6_answer_44 : decode cX6_answer 44 = .ok (.ireturn, 1) := by decide +kernel
theorem dX6_answer_45 : decode cX6_answer 45 = .ok (.aload_n 0, 1) := by decide +kernel
theorem dX6_answer_46 : decode cX6_answer 46 = .ok (.iload_n 3, 1) := by decide +kernel
theorem dX6_answer_47 : decode cX6_answer 47 = .ok (.invokevirtual 99, 3) := by decide +kernel
theorem dX6_answer_50 : decode cX6_answer 50 = .ok (.istore 4, 2) := by decide +kernel
theorem dX6_answer_52 : decode cX6_answer 52 = .ok (.iload_n 1, 1) := by decide +kernel
theorem dX6_answer_53 : decode cX6_answer 53 = .ok (.ifCond .ne 17, 3) := by decide +kernel
theorem dX6_answer_56 : decode cX6_answer 56 = .ok (.iconst 0, 1) := by decide +kernel
theorem dX6_answer_57 : decode cX6_answer 57 = .ok (.bipush 15, 2) := by decide +kernel
theorem dX6_answer_59 : decode cX6_answer 59 = .ok (.iload 4, 2) := by decide +kernel
theorem dX6_answer_61 : decode cX6_answer 61 = .ok (.invokestatic 103, 3) := by decide +kernel
theorem dX6_answer_64 : decode cX6_answer 64 = .ok (.invokestatic 109, 3) := by decide +kernel
theorem dX6_answer_67 : decode cX6_answer 67 = .ok (.goto 5, 3) := by decide +kernel
theorem dX6_answer_70 : decode cX6_answer 70 = .ok (.iload 4, 2) := by decide +kernel
theorem dX6_answer_72 : decode cX6_answer 72 = .ok (.ireturn, 1) := by decide +kernel
theorem dX6_letsHide_0 : decode cX6_letsHide 0 = .ok (.aload_n 0, 1) := by decide +kernel
theorem dX6_letsHide_1 : decode cX6_letsHide 1 = .ok (.aload_n 0, 1) := by decide +kernel
theorem dX6_letsHide_2 : decode cX6_letsHide 2 = .ok (.getfield 41, 3) := by decide +kernel
theorem dX6_letsHide_5 : decode cX6_letsHide 5 = .ok (.getfield 55, 3) := by decide +kernel
theorem dX6_letsHide_8 : decode cX6_letsHide 8 = .ok (.aload_n 1, 1) := by decide +kernel
theorem dX6_letsHide_9 : decode cX6_letsHide 9 = .ok (.iload_n 2, 1) := by decide +kernel
theorem dX6_letsHide_10 : decode cX6_letsHide 10 = .ok (.iload_n 3, 1) := by decide +kernel
theorem dX6_letsHide_11 : decode cX6_letsHide 11 = .ok (.invokevirtual 112, 3) := by decide +kernel
theorem dX6_letsHide_14 : decode cX6_letsHide 14 = .ok (.aload_n 0, 1) := by decide +kernel
theorem dX6_letsHide_15 : decode cX6_letsHide 15 = .ok (.iconst 1, 1) := by decide +kernel
theorem dX6_letsHide_16 : decode cX6_letsHide 16 = .ok (.aload_n 0, 1) := by decide +kernel
theorem dX6_letsHide_17 : decode cX6_letsHide 17 = .ok (.getfield 41, 3) := by decide +kernel
theorem dX6_letsHide_20 : decode cX6_letsHide 20 = .ok (.getfield 55, 3) := by decide +kernel
theorem dX6_letsHide_23 : decode cX6_letsHide 23 = .ok (.invokevirtual 116, 3) := by decide +kernel
theorem dX6_letsHide_26 : decode cX6_letsHide 26 = .ok (.ifCond .eq 7, 3) := by decide +kernel
theorem dX6_letsHide_29 : decode cX6_letsHide 29 = .ok (.iconst 1, 1) := by decide +kernel
theorem dX6_letsHide_30 : decode cX6_letsHide 30 = .ok (.goto 4, 3) := by decide +kernel
theorem dX6_letsHide_33 : decode cX6_letsHide 33 = .ok (.iconst 0, 1) := by decide +kernel
theorem dX6_letsHide_34 : decode cX6_letsHide 34 = .ok (.ireturn, 1) := by decide +kernel
theorem dX6_shows_0 : decode cX6_shows 0 = .ok (.aload_n 0, 1) := by decide +kernel
theorem dX6_shows_1 : decode cX6_shows 1 = .ok (.aload_n 0, 1) := by decide +kernel
theorem dX6_shows_2 : decode cX6_shows 2 = .ok (.getfield 41, 3) := by decide +kernel
theorem dX6_shows_5 : decode cX6_shows 5 = .ok (.getfield 55, 3) := by decide +kernel
theorem dX6_shows_8 : decode cX6_shows 8 = .ok (.aload_n 1, 1) := by decide +kernel
theorem dX6_shows_9 : decode cX6_shows 9 = .ok (.aload_n 2, 1) := by decide +kernel
theorem dX6_shows_10 : decode cX6_shows 10 = .ok (.iconst 0, 1) := by decide +kernel
theorem dX6_shows_11 : decode cX6_shows 11 = .ok (.invokevirtual 119, 3) := by decide +kernel
theorem dX6_shows_14 : decode cX6_shows 14 = .ok (.aload_n 0, 1) := by decide +kernel
theorem dX6_shows_15 : decode cX6_shows 15 = .ok (.iconst 4, 1) := by decide +kernel
theorem dX6_shows_16 : decode cX6_shows 16 = .ok (.aload_n 0, 1) := by decide +kernel
theorem dX6_shows_17 : decode cX6_shows 17 = .ok (.getfield 41, 3) := by decide +kernel
theorem dX6_shows_20 : decode cX6_shows 20 = .ok (.getfield 55, 3) := by decide +kernel
theorem dX6_shows_23 : decode cX6_shows 23 = .ok (.invokevirtual 116, 3) := by decide +kernel
theorem dX6_shows_26 : decode cX6_shows 26 = .ok (.ifCond .eq 7, 3) := by decide +kernel
theorem dX6_shows_29 : decode cX6_shows 29 = .ok (.iconst 1, 1) := by decide +kernel
theorem dX6_shows_30 : decode cX6_shows 30 = .ok (.goto 4, 3) := by decide +kernel
theorem dX6_shows_33 : decode cX6_shows 33 = .ok (.iconst 0, 1) := by decide +kernel
theorem dX6_shows_34 : decode cX6_shows 34 = .ok (.ireturn, 1) := by decide +kernel
theorem dX6_putsDown_0 : decode cX6_putsDown 0 = .ok (.aload_n 0, 1) := by decide +kernel
theorem dX6_putsDown_1 : decode cX6_putsDown 1 = .ok (.aload_n 0, 1) := by decide +kernel
theorem dX6_putsDown_2 : decode cX6_putsDown 2 = .ok (.getfield 41, 3) := by decide +kernel
theorem dX6_putsDown_5 : decode cX6_putsDown 5 = .ok (.getfield 55, 3) := by decide +kernel
theorem dX6_putsDown_8 : decode cX6_putsDown 8 = .ok (.aconst_null, 1) := by decide +kernel
theorem dX6_putsDown_9 : decode cX6_putsDown 9 = .ok (.aload_n 1, 1) := by decide +kernel
theorem dX6_putsDown_10 : decode cX6_putsDown 10 = .ok (.iconst 0, 1) := by decide +kernel
theorem dX6_putsDown_11 : decode cX6_putsDown 11 = .ok (.invokevirtual 119, 3) := by decide +kernel
theorem dX6_putsDown_14 : decode cX6_putsDown 14 = .ok (.aload_n 0, 1) := by decide +kernel
theorem dX6_putsDown_15 : decode cX6_putsDown 15 = .ok (.iconst 3, 1) := by decide +kernel
theorem dX6_putsDown_16 : decode cX6_putsDown 16 = .ok (.aload_n 0, 1) := by decide +kernel
theorem dX6_putsDown_17 : decode cX6_putsDown 17 = .ok (.getfield 41, 3) := by decide +kernel
theorem dX6_putsDown_20 : decode cX6_putsDown 20 = .ok (.getfield 55, 3) := by decide +kernel
theorem dX6_putsDown_23 : decode cX6_putsDown 23 = .ok (.invokevirtual 116, 3) := by decide +kernel
theorem dX6_putsDown_26 : decode cX6_putsDown 26 = .ok (.ifCond .eq 7, 3) := by decide +kernel
theorem dX6_putsDown_29 : decode cX6_putsDown 29 = .ok (.iconst 1, 1) := by decide +kernel
theorem dX6_putsDown_30 : decode cX6_putsDown 30 = .ok (.goto 4, 3) := by decide +kernel
theorem dX6_putsDown_33 : decode cX6_putsDown 33 = .ok (.iconst 0, 1) := by decide +kernel
theorem dX6_putsDown_34 : decode cX6_putsDown 34 = .ok (.ireturn, 1) := by decide +kernel
theorem dX6_counts_0 : decode cX6_counts 0 = .ok (.iload_n 3, 1) := by decide +kernel
theorem dX6_counts_1 : decode cX6_counts 1 = .ok (.bipush 24, 2) := by decide +kernel
theorem dX6_counts_3 : decode cX6_counts 3 = .ok (.idiv, 1) := by decide +kernel
theorem dX6_counts_4 : decode cX6_counts 4 = .ok (.istore 5, 2) := by decide +kernel
theorem dX6_counts_6 : decode cX6_counts 6 = .ok (.aload_n 0, 1) := by decide +kernel
theorem dX6_counts_7 : decode cX6_counts 7 = .ok (.iload 5, 2) := by decide +kernel
theorem dX6_counts_9 : decode cX6_counts 9 = .ok (.aload_n 0, 1) := by decide +kernel
theorem dX6_counts_10 : decode cX6_counts 10 = .ok (.getfield 41, 3) := by decide +kernel
theorem dX6_counts_13 : decode cX6_counts 13 = .ok (.iload_n 1, 1) := by decide +kernel
theorem dX6_counts_14 : decode cX6_counts 14 = .ok (.invokevirtual 123, 3) := by decide +kernel
theorem dX6_counts_17 : decode cX6_counts 17 = .ok (.aload_n 0, 1) := by decide +kernel
theorem dX6_counts_18 : decode cX6_counts 18 = .ok (.getfield 41, 3) := by decide +kernel
theorem dX6_counts_21 : decode cX6_counts 21 = .ok (.iload_n 2, 1) := by decide +kernel
theorem dX6_counts_22 : decode cX6_counts 22 = .ok (.invokevirtual 127, 3) := by decide +kernel
theorem dX6_counts_25 : decode cX6_counts 25 = .ok (.iload_n 3, 1) := by decide +kernel
theorem dX6_counts_26 : decode cX6_counts 26 = .ok (.bipush 24, 2) := by decide +kernel
theorem dX6_counts_28 : decode cX6_counts 28 = .ok (.irem, 1) := by decide +kernel
theorem dX6_counts_29 : decode cX6_counts 29 = .ok (.invokevirtual 119, 3) := by decide +kernel
theorem dX6_counts_32 : decode cX6_counts 32 = .ok (.iload 4, 2) := by decide +kernel
theorem dX6_counts_34 : decode cX6_counts 34 = .ok (.ifCond .ge 13, 3) := by decide +kernel
theorem dX6_counts_37 : decode cX6_counts 37 = .ok (.aload_n 0, 1) := by decide +kernel
theorem dX6_counts_38 : decode cX6_counts 38 = .ok (.iconst 2, 1) := by decide +kernel
theorem dX6_counts_39 : decode cX6_counts 39 = .ok (.iload 5, 2) := by decide +kernel
theorem dX6_counts_41 : decode cX6_counts 41 = .ok (.invokevirtual 116, 3) := by decide +kernel
theorem dX6_counts_44 : decode cX6_counts 44 = .ok (.goto 9, 3) := by decide +kernel
theorem dX6_counts_47 : decode cX6_counts 47 = .ok (.aload_n 0, 1) := by decide +kernel
theorem dX6_counts_48 : decode cX6_counts 48 = .ok (.iload 4, 2) := by decide +kernel
theorem dX6_counts_50 : decode cX6_counts 50 = .ok (.invokevirtual 99, 3) := by decide +kernel
theorem dX6_counts_53 : decode cX6_counts 53 = .ok (.ifCond .eq 7, 3) := by decide +kernel
theorem dX6_counts_56 : decode cX6_counts 56 = .ok (.iconst 1, 1) := by decide +kernel
theorem dX6_counts_57 : decode cX6_counts 57 = .ok (.goto 4, 3) := by decide +kernel
theorem dX6_counts_60 : decode cX6_counts 60 = .ok (.iconst 0, 1) := by decide +kernel
theorem dX6_counts_61 : decode cX6_counts 61 = .ok (.ireturn, 1) := by decide +kernel
theorem dX6_whyNot_0 : decode cX6_whyNot 0 = .ok (.aload_n 1, 1) := by decide +kernel
theorem dX6_whyNot_1 : decode cX6_whyNot 1 = .ok (.invokevirtual 131, 3) := by decide +kernel
theorem dX6_whyNot_4 : decode cX6_whyNot 4 = .ok (.ifCond .ne 13, 3) := by decide +kernel
theorem dX6_whyNot_7 : decode cX6_whyNot 7 = .ok (.aload_n 0, 1) := by decide +kernel
theorem dX6_whyNot_8 : decode cX6_whyNot 8 = .ok (.aload_n 1, 1) := by decide +kernel
theorem dX6_whyNot_9 : decode cX6_whyNot 9 = .ok (.iload_n 2, 1) := by decide +kernel
theorem dX6_whyNot_10 : decode cX6_whyNot 10 = .ok (.iload_n 3, 1) := by decide +kernel
theorem dX6_whyNot_11 : decode cX6_whyNot 11 = .ok (.invokevirtual 137, 3) := by decide +kernel
theorem dX6_whyNot_14 : decode cX6_whyNot 14 = .ok (.ifCond .ne 5, 3) := by decide +kernel
theorem dX6_whyNot_17 : decode cX6_whyNot 17 = .ok (.iconst 1, 1) := by decide +kernel
theorem dX6_whyNot_18 : decode cX6_whyNot 18 = .ok (.ireturn, 1) := by decide +kernel
theorem dX6_whyNot_19 : decode cX6_whyNot 19 = .ok (.aload_n 0, 1) := by decide +kernel
theorem dX6_whyNot_20 : decode cX6_whyNot 20 = .ok (.aload_n 1, 1) := by decide +kernel
theorem dX6_whyNot_21 : decode cX6_whyNot 21 = .ok (.iload_n 2, 1) := by decide +kernel
theorem dX6_whyNot_22 : decode cX6_whyNot 22 = .ok (.iload_n 3, 1) := by decide +kernel
theorem dX6_whyNot_23 : decode cX6_whyNot 23 = .ok (.invokevirtual 141, 3) := by decide +kernel
theorem dX6_whyNot_26 : decode cX6_whyNot 26 = .ok (.ifCond .ne 5, 3) := by decide +kernel
theorem dX6_whyNot_29 : decode cX6_whyNot 29 = .ok (.iconst 2, 1) := by decide +kernel
theorem dX6_whyNot_30 : decode cX6_whyNot 30 = .ok (.ireturn, 1) := by decide +kernel
theorem dX6_whyNot_31 : decode cX6_whyNot 31 = .ok (.aload_n 0, 1) := by decide +kernel
theorem dX6_whyNot_32 : decode cX6_whyNot 32 = .ok (.aload_n 0, 1) := by decide +kernel
theorem dX6_whyNot_33 : decode cX6_whyNot 33 = .ok (.getfield 41, 3) := by decide +kernel
theorem dX6_whyNot_36 : decode cX6_whyNot 36 = .ok (.getfield 55, 3) := by decide +kernel
theorem dX6_whyNot_39 : decode cX6_whyNot 39 = .ok (.aconst_null, 1) := by decide +kernel
theorem dX6_whyNot_40 : decode cX6_whyNot 40 = .ok (.aconst_null, 1) := by decide +kernel
theorem dX6_whyNot_41 : decode cX6_whyNot 41 = .ok (.iconst 0, 1) := by decide +kernel
theorem dX6_whyNot_42 : decode cX6_whyNot 42 = .ok (.invokevirtual 119, 3) := by decide +kernel
theorem dX6_whyNot_45 : decode cX6_whyNot 45 = .ok (.aload_n 0, 1) := by decide +kernel
theorem dX6_whyNot_46 : decode cX6_whyNot 46 = .ok (.iconst 0, 1) := by decide +kernel
theorem dX6_whyNot_47 : decode cX6_whyNot 47 = .ok (.aload_n 0, 1) := by decide +kernel
theorem dX6_whyNot_48 : decode cX6_whyNot 48 = .ok (.getfield 41, 3) := by decide +kernel
theorem dX6_whyNot_51 : decode cX6_whyNot 51 = .ok (.getfield 55, 3) := by decide +kernel
theorem dX6_whyNot_54 : decode cX6_whyNot 54 = .ok (.invokevirtual 116, 3) := by decide +kernel
theorem dX6_whyNot_57 : decode cX6_whyNot 57 = .ok (.istore 4, 2) := by decide +kernel
theorem dX6_whyNot_59 : decode cX6_whyNot 59 = .ok (.aload_n 0, 1) := by decide +kernel
theorem dX6_whyNot_60 : decode cX6_whyNot 60 = .ok (.getfield 41, 3) := by decide +kernel
theorem dX6_whyNot_63 : decode cX6_whyNot 63 = .ok (.getfield 144, 3) := by decide +kernel
theorem dX6_whyNot_66 : decode cX6_whyNot 66 = .ok (.iconst 1, 1) := by decide +kernel
theorem dX6_whyNot_67 : decode cX6_whyNot 67 = .ok (.isub, 1) := by decide +kernel
theorem dX6_whyNot_68 : decode cX6_whyNot 68 = .ok (.istore 5, 2) := by decide +kernel
theorem dX6_whyNot_70 : decode cX6_whyNot 70 = .ok (.iload_n 2, 1) := by decide +kernel
theorem dX6_whyNot_71 : decode cX6_whyNot 71 = .ok (.iconst 3, 1) := by decide +kernel
theorem dX6_whyNot_72 : decode cX6_whyNot 72 = .ok (.if_icmp .ne 21, 3) := by decide +kernel
theorem dX6_whyNot_75 : decode cX6_whyNot 75 = .ok (.iload 5, 2) := by decide +kernel
theorem dX6_whyNot_77 : decode cX6_whyNot 77 = .ok (.ifCond .lt 16, 3) := by decide +kernel
theorem dX6_whyNot_80 : decode cX6_whyNot 80 = .ok (.aload_n 0, 1) := by decide +kernel
theorem dX6_whyNot_81 : decode cX6_whyNot 81 = .ok (.getfield 41, 3) := by decide +kernel
theorem dX6_whyNot_84 : decode cX6_whyNot 84 = .ok (.getfield 147, 3) := by decide +kernel
theorem dX6_whyNot_87 : decode cX6_whyNot 87 = .ok (.iload 5, 2) := by decide +kernel
theorem dX6_whyNot_89 : decode cX6_whyNot 89 = .ok (.iaload, 1) := by decide +kernel
theorem dX6_whyNot_90 : decode cX6_whyNot 90 = .ok (.goto 4, 3) := by decide +kernel
theorem dX6_whyNot_93 : decode cX6_whyNot 93 = .ok (.iload_n 3, 1) := by decide +kernel
theorem dX6_whyNot_94 : decode cX6_whyNot 94 = .ok (.istore 6, 2) := by decide +kernel
theorem dX6_whyNot_96 : decode cX6_whyNot 96 = .ok (.aload_n 0, 1) := by decide +kernel
theorem dX6_whyNot_97 : decode cX6_whyNot 97 = .ok (.iload 6, 2) := by decide +kernel
theorem dX6_whyNot_99 : decode cX6_whyNot 99 = .ok (.iload 4, 2) := by decide +kernel
theorem dX6_whyNot_101 : decode cX6_whyNot 101 = .ok (.invokevirtual 150, 3) := by decide +kernel
theorem dX6_whyNot_104 : decode cX6_whyNot 104 = .ok (.ifCond .eq 5, 3) := by decide +kernel
theorem dX6_whyNot_107 : decode cX6_whyNot 107 = .ok (.iconst 3, 1) := by decide +kernel
theorem dX6_whyNot_108 : decode cX6_whyNot 108 = .ok (.ireturn, 1) := by decide +kernel
theorem dX6_whyNot_109 : decode cX6_whyNot 109 = .ok (.aload_n 0, 1) := by decide +kernel
theorem dX6_whyNot_110 : decode cX6_whyNot 110 = .ok (.iload 6, 2) := by decide +kernel
theorem dX6_whyNot_112 : decode cX6_whyNot 112 = .ok (.iload 4, 2) := by decide +kernel
theorem dX6_whyNot_114 : decode cX6_whyNot 114 = .ok (.invokevirtual 154, 3) := by decide +kernel
theorem dX6_whyNot_117 : decode cX6_whyNot 117 = .ok (.ifCond .eq 7, 3) := by decide +kernel
theorem dX6_whyNot_120 : decode cX6_whyNot 120 = .ok (.iconst 4, 1) := by decide +kernel
theorem dX6_whyNot_121 : decode cX6_whyNot 121 = .ok (.goto 4, 3) := by decide +kernel
theorem dX6_whyNot_124 : decode cX6_whyNot 124 = .ok (.iconst 0, 1) := by decide +kernel
theorem dX6_whyNot_125 : decode cX6_whyNot 125 = .ok (.ireturn, 1) := by decide +kernel
theorem dX6_leavesLet_0 : decode cX6_leavesLet 0 = .ok (.iload_n 2, 1) := by decide +kernel
theorem dX6_leavesLet_1 : decode cX6_leavesLet 1 = .ok (.iconst 3, 1) := by decide +kernel
theorem dX6_leavesLet_2 : decode cX6_leavesLet 2 = .ok (.if_icmp .ne 13, 3) := by decide +kernel
theorem dX6_leavesLet_5 : decode cX6_leavesLet 5 = .ok (.aload_n 0, 1) := by decide +kernel
theorem dX6_leavesLet_6 : decode cX6_leavesLet 6 = .ok (.getfield 41, 3) := by decide +kernel
theorem dX6_leavesLet_9 : decode cX6_leavesLet 9 = .ok (.getfield 144, 3) := by decide +kernel
theorem dX6_leavesLet_12 : decode cX6_leavesLet 12 = .ok (.goto 4, 3) := by decide +kernel
theorem dX6_leavesLet_15 : decode cX6_leavesLet 15 = .ok (.iconst 0, 1) := by decide +kernel
theorem dX6_leavesLet_16 : decode cX6_leavesLet 16 = .ok (.istore 4, 2) := by decide +kernel
theorem dX6_leavesLet_18 : decode cX6_leavesLet 18 = .ok (.iconst (-1), 1) := by decide +kernel
theorem dX6_leavesLet_19 : decode cX6_leavesLet 19 = .ok (.istore 5, 2) := by decide +kernel
theorem dX6_leavesLet_21 : decode cX6_leavesLet 21 = .ok (.iload 5, 2) := by decide +kernel
theorem dX6_leavesLet_23 : decode cX6_leavesLet 23 = .ok (.iload 4, 2) := by decide +kernel
theorem dX6_leavesLet_25 : decode cX6_leavesLet 25 = .ok (.if_icmp .ge 83, 3) := by decide +kernel
theorem dX6_leavesLet_28 : decode cX6_leavesLet 28 = .ok (.iload 5, 2) := by decide +kernel
theorem dX6_leavesLet_30 : decode cX6_leavesLet 30 = .ok (.ifCond .ge 7, 3) := by decide +kernel
theorem dX6_leavesLet_33 : decode cX6_leavesLet 33 = .ok (.iload_n 3, 1) := by decide +kernel
theorem dX6_leavesLet_34 : decode cX6_leavesLet 34 = .ok (.goto 13, 3) := by decide +kernel
theorem dX6_leavesLet_37 : decode cX6_leavesLet 37 = .ok (.aload_n 0, 1) := by decide +kernel
theorem dX6_leavesLet_38 : decode cX6_leavesLet 38 = .ok (.getfield 41, 3) := by decide +kernel
theorem dX6_leavesLet_41 : decode cX6_leavesLet 41 = .ok (.getfield 147, 3) := by decide +kernel
theorem dX6_leavesLet_44 : decode cX6_leavesLet 44 = .ok (.iload 5, 2) := by decide +kernel
theorem dX6_leavesLet_46 : decode cX6_leavesLet 46 = .ok (.iaload, 1) := by decide +kernel
theorem dX6_leavesLet_47 : decode cX6_leavesLet 47 = .ok (.istore 6, 2) := by decide +kernel
theorem dX6_leavesLet_49 : decode cX6_leavesLet 49 = .ok (.aload_n 0, 1) := by decide +kernel
theorem dX6_leavesLet_50 : decode cX6_leavesLet 50 = .ok (.getfield 41, 3) := by decide +kernel
theorem dX6_leavesLet_53 : decode cX6_leavesLet 53 = .ok (.getfield 157, 3) := by decide +kernel
theorem dX6_leavesLet_56 : decode cX6_leavesLet 56 = .ok (.iload 6, 2) := by decide +kernel
theorem dX6_leavesLet_58 : decode cX6_leavesLet 58 = .ok (.iaload, 1) := by decide +kernel
theorem dX6_leavesLet_59 : decode cX6_leavesLet 59 = .ok (.istore 7, 2) := by decide +kernel
theorem dX6_leavesLet_61 : decode cX6_leavesLet 61 = .ok (.aload_n 0, 1) := by decide +kernel
theorem dX6_leavesLet_62 : decode cX6_leavesLet 62 = .ok (.aload_n 0, 1) := by decide +kernel
theorem dX6_leavesLet_63 : decode cX6_leavesLet 63 = .ok (.getfield 41, 3) := by decide +kernel
theorem dX6_leavesLet_66 : decode cX6_leavesLet 66 = .ok (.getfield 55, 3) := by decide +kernel
theorem dX6_leavesLet_69 : decode cX6_leavesLet 69 = .ok (.aload_n 1, 1) := by decide +kernel
theorem dX6_leavesLet_70 : decode cX6_leavesLet 70 = .ok (.iload_n 2, 1) := by decide +kernel
theorem dX6_leavesLet_71 : decode cX6_leavesLet 71 = .ok (.iload 6, 2) := by decide +kernel
theorem dX6_leavesLet_73 : decode cX6_leavesLet 73 = .ok (.invokevirtual 112, 3) := by decide +kernel
theorem dX6_leavesLet_76 : decode cX6_leavesLet 76 = .ok (.iload 7, 2) := by decide +kernel
theorem dX6_leavesLet_78 : decode cX6_leavesLet 78 = .ok (.ifCond .lt 24, 3) := by decide +kernel
theorem dX6_leavesLet_81 : decode cX6_leavesLet 81 = .ok (.aload_n 0, 1) := by decide +kernel
theorem dX6_leavesLet_82 : decode cX6_leavesLet 82 = .ok (.bipush 10, 2) := by decide +kernel
theorem dX6_leavesLet_84 : decode cX6_leavesLet 84 = .ok (.iload 7, 2) := by decide +kernel
theorem dX6_leavesLet_86 : decode cX6_leavesLet 86 = .ok (.iadd, 1) := by decide +kernel
theorem dX6_leavesLet_87 : decode cX6_leavesLet 87 = .ok (.aload_n 0, 1) := by decide +kernel
theorem dX6_leavesLet_88 : decode cX6_leavesLet 88 = .ok (.getfield 41, 3) := by decide +kernel
theorem dX6_leavesLet_91 : decode cX6_leavesLet 91 = .ok (.getfield 55, 3) := by decide +kernel
theorem dX6_leavesLet_94 : decode cX6_leavesLet 94 = .ok (.invokevirtual 116, 3) := by decide +kernel
theorem dX6_leavesLet_97 : decode cX6_leavesLet 97 = .ok (.ifCond .ne 5, 3) := by decide +kernel
theorem dX6_leavesLet_100 : decode cX6_leavesLet 100 = .ok (.iconst 0, 1) := by decide +kernel
theorem dX6_leavesLet_101 : decode cX6_leavesLet 101 = .ok (.ireturn, 1) := by decide +kernel
theorem dX6_leavesLet_102 : decode cX6_leavesLet 102 = .ok (.iinc 5 1, 3) := by decide +kernel
theorem dX6_leavesLet_105 : decode cX6_leavesLet 105 = .ok (.goto (-84), 3) := by decide +kernel
theorem dX6_leavesLet_108 : decode cX6_leavesLet 108 = .ok (.iconst 1, 1) := by decide +kernel
theorem dX6_leavesLet_109 : decode cX6_leavesLet 109 = .ok (.ireturn, 1) := by decide +kernel
theorem dX6_isNearKnown_0 : decode cX6_isNearKnown 0 = .ok (.iconst 0, 1) := by decide +kernel
theorem dX6_isNearKnown_1 : decode cX6_isNearKnown 1 = .ok (.istore_n 3, 1) := by decide +kernel
theorem dX6_isNearKnown_2 : decode cX6_isNearKnown 2 = .ok (.iload_n 3, 1) := by decide +kernel
theorem dX6_isNearKnown_3 : decode cX6_isNearKnown 3 = .ok (.aload_n 0, 1) := by decide +kernel
theorem dX6_isNearKnown_4 : decode cX6_isNearKnown 4 = .ok (.getfield 41, 3) := by decide +kernel
theorem dX6_isNearKnown_7 : decode cX6_isNearKnown 7 = .ok (.getfield 160, 3) := by decide +kernel
theorem dX6_isNearKnown_10 : decode cX6_isNearKnown 10 = .ok (.if_icmp .ge 60, 3) := by decide +kernel
theorem dX6_isNearKnown_13 : decode cX6_isNearKnown 13 = .ok (.aload_n 0, 1) := by decide +kernel
theorem dX6_isNearKnown_14 : decode cX6_isNearKnown 14 = .ok (.getfield 41, 3) := by decide +kernel
theorem dX6_isNearKnown_17 : decode cX6_isNearKnown 17 = .ok (.iload_n 3, 1) := by decide +kernel
theorem dX6_isNearKnown_18 : decode cX6_isNearKnown 18 = .ok (.invokevirtual 127, 3) := by decide +kernel
theorem dX6_isNearKnown_21 : decode cX6_isNearKnown 21 = .ok (.astore 4, 2) := by decide +kernel
theorem dX6_isNearKnown_23 : decode cX6_isNearKnown 23 = .ok (.aload 4, 2) := by decide +kernel
theorem dX6_isNearKnown_25 : decode cX6_isNearKnown 25 = .ok (.ifnull 39, 3) := by decide +kernel
theorem dX6_isNearKnown_28 : decode cX6_isNearKnown 28 = .ok (.aload 4, 2) := by decide +kernel
theorem dX6_isNearKnown_30 : decode cX6_isNearKnown 30 = .ok (.invokevirtual 163, 3) := by decide +kernel
theorem dX6_isNearKnown_33 : decode cX6_isNearKnown 33 = .ok (.ifCond .ne 31, 3) := by decide +kernel
theorem dX6_isNearKnown_36 : decode cX6_isNearKnown 36 = .ok (.iload_n 1, 1) := by decide +kernel
theorem dX6_isNearKnown_37 : decode cX6_isNearKnown 37 = .ok (.aload 4, 2) := by decide +kernel
theorem dX6_isNearKnown_39 : decode cX6_isNearKnown 39 = .ok (.invokevirtual 166, 3) := by decide +kernel
theorem dX6_isNearKnown_42 : decode cX6_isNearKnown 42 = .ok (.invokestatic 169, 3) := by decide +kernel
theorem dX6_isNearKnown_45 : decode cX6_isNearKnown 45 = .ok (.iload_n 2, 1) := by decide +kernel
theorem dX6_isNearKnown_46 : decode cX6_isNearKnown 46 = .ok (.if_icmp .lt 16, 3) := by decide +kernel
theorem dX6_isNearKnown_49 : decode cX6_isNearKnown 49 = .ok (.iload_n 1, 1) := by decide +kernel
theorem dX6_isNearKnown_50 : decode cX6_isNearKnown 50 = .ok (.aload 4, 2) := by decide +kernel
theorem dX6_isNearKnown_52 : decode cX6_isNearKnown 52 = .ok (.getfield 83, 3) := by decide +kernel
theorem dX6_isNearKnown_55 : decode cX6_isNearKnown 55 = .ok (.invokestatic 169, 3) := by decide +kernel
theorem dX6_isNearKnown_58 : decode cX6_isNearKnown 58 = .ok (.iload_n 2, 1) := by decide +kernel
theorem dX6_isNearKnown_59 : decode cX6_isNearKnown 59 = .ok (.if_icmp .ge 5, 3) := by decide +kernel
theorem dX6_isNearKnown_62 : decode cX6_isNearKnown 62 = .ok (.iconst 1, 1) := by decide +kernel
theorem dX6_isNearKnown_63 : decode cX6_isNearKnown 63 = .ok (.ireturn, 1) := by decide +kernel
theorem dX6_isNearKnown_64 : decode cX6_isNearKnown 64 = .ok (.iinc 3 1, 3) := by decide +kernel
theorem dX6_isNearKnown_67 : decode cX6_isNearKnown 67 = .ok (.goto (-65), 3) := by decide +kernel
theorem dX6_isNearKnown_70 : decode cX6_isNearKnown 70 = .ok (.iconst 0, 1) := by decide +kernel
theorem dX6_isNearKnown_71 : decode cX6_isNearKnown 71 = .ok (.ireturn, 1) := by decide +kernel
theorem dX6_isNearSecret_0 : decode cX6_isNearSecret 0 = .ok (.iconst 0, 1) := by decide +kernel
theorem dX6_isNearSecret_1 : decode cX6_isNearSecret 1 = .ok (.istore_n 3, 1) := by decide +kernel
theorem dX6_isNearSecret_2 : decode cX6_isNearSecret 2 = .ok (.iload_n 3, 1) := by decide +kernel
theorem dX6_isNearSecret_3 : decode cX6_isNearSecret 3 = .ok (.aload_n 0, 1) := by decide +kernel
theorem dX6_isNearSecret_4 : decode cX6_isNearSecret 4 = .ok (.getfield 41, 3) := by decide +kernel
theorem dX6_isNearSecret_7 : decode cX6_isNearSecret 7 = .ok (.getfield 160, 3) := by decide +kernel
theorem dX6_isNearSecret_10 : decode cX6_isNearSecret 10 = .ok (.if_icmp .ge 71, 3) := by decide +kernel
theorem dX6_isNearSecret_13 : decode cX6_isNearSecret 13 = .ok (.aload_n 0, 1) := by decide +kernel
theorem dX6_isNearSecret_14 : decode cX6_isNearSecret 14 = .ok (.getfield 41, 3) := by decide +kernel
theorem dX6_isNearSecret_17 : decode cX6_isNearSecret 17 = .ok (.iload_n 3, 1) := by decide +kernel
theorem dX6_isNearSecret_18 : decode cX6_isNearSecret 18 = .ok (.invokevirtual 127, 3) := by decide +kernel
theorem dX6_isNearSecret_21 : decode cX6_isNearSecret 21 = .ok (.astore 4, 2) := by decide +kernel
theorem dX6_isNearSecret_23 : decode cX6_isNearSecret 23 = .ok (.iconst 0, 1) := by decide +kernel
theorem dX6_isNearSecret_24 : decode cX6_isNearSecret 24 = .ok (.istore 5, 2) := by decide +kernel
theorem dX6_isNearSecret_26 : decode cX6_isNearSecret 26 = .ok (.aload 4, 2) := by decide +kernel
theorem dX6_isNearSecret_28 : decode cX6_isNearSecret 28 = .ok (.ifnull 47, 3) := by decide +kernel
theorem dX6_isNearSecret_31 : decode cX6_isNearSecret 31 = .ok (.aload 4, 2) := by decide +kernel
theorem dX6_isNearSecret_33 : decode cX6_isNearSecret 33 = .ok (.invokevirtual 163, 3) := by decide +kernel
theorem dX6_isNearSecret_36 : decode cX6_isNearSecret 36 = .ok (.ifCond .ne 39, 3) := by decide +kernel
theorem dX6_isNearSecret_39 : decode cX6_isNearSecret 39 = .ok (.iload 5, 2) := by decide +kernel
theorem dX6_isNearSecret_41 : decode cX6_isNearSecret 41 = .ok (.aload 4, 2) := by decide +kernel
theorem dX6_isNearSecret_43 : decode cX6_isNearSecret 43 = .ok (.getfield 172, 3) := by decide +kernel
theorem dX6_isNearSecret_46 : decode cX6_isNearSecret 46 = .ok (.iconst 1, 1) := by decide +kernel
theorem dX6_isNearSecret_47 : decode cX6_isNearSecret 47 = .ok (.isub, 1) := by decide +kernel
theorem dX6_isNearSecret_48 : decode cX6_isNearSecret 48 = .ok (.if_icmp .ge 27, 3) := by decide +kernel
theorem dX6_isNearSecret_51 : decode cX6_isNearSecret 51 = .ok (.iload_n 1, 1) := by decide +kernel
theorem dX6_isNearSecret_52 : decode cX6_isNearSecret 52 = .ok (.aload 4, 2) := by decide +kernel
theorem dX6_isNearSecret_54 : decode cX6_isNearSecret 54 = .ok (.getfield 173, 3) := by decide +kernel
theorem dX6_isNearSecret_57 : decode cX6_isNearSecret 57 = .ok (.iload 5, 2) := by decide +kernel
theorem dX6_isNearSecret_59 : decode cX6_isNearSecret 59 = .ok (.iaload, 1) := by decide +kernel
theorem dX6_isNearSecret_60 : decode cX6_isNearSecret 60 = .ok (.invokestatic 169, 3) := by decide +kernel
theorem dX6_isNearSecret_63 : decode cX6_isNearSecret 63 = .ok (.iload_n 2, 1) := by decide +kernel
theorem dX6_isNearSecret_64 : decode cX6_isNearSecret 64 = .ok (.if_icmp .ge 5, 3) := by decide +kernel
theorem dX6_isNearSecret_67 : decode cX6_isNearSecret 67 = .ok (.iconst 1, 1) := by decide +kernel
theorem dX6_isNearSecret_68 : decode cX6_isNearSecret 68 = .ok (.ireturn, 1) := by decide +kernel
theorem dX6_isNearSecret_69 : decode cX6_isNearSecret 69 = .ok (.iinc 5 1, 3) := by decide +kernel
theorem dX6_isNearSecret_72 : decode cX6_isNearSecret 72 = .ok (.goto (-46), 3) := by decide +kernel
theorem dX6_isNearSecret_75 : decode cX6_isNearSecret 75 = .ok (.iinc 3 1, 3) := by decide +kernel
theorem dX6_isNearSecret_78 : decode cX6_isNearSecret 78 = .ok (.goto (-76), 3) := by decide +kernel
theorem dX6_isNearSecret_81 : decode cX6_isNearSecret 81 = .ok (.iconst 0, 1) := by decide +kernel
theorem dX6_isNearSecret_82 : decode cX6_isNearSecret 82 = .ok (.ireturn, 1) := by decide +kernel
theorem dX6_work_0 : decode cX6_work 0 = .ok (.aload_n 0, 1) := by decide +kernel
theorem dX6_work_1 : decode cX6_work 1 = .ok (.iconst (-1), 1) := by decide +kernel
theorem dX6_work_2 : decode cX6_work 2 = .ok (.putfield 18, 3) := by decide +kernel
theorem dX6_work_5 : decode cX6_work 5 = .ok (.iload_n 1, 1) := by decide +kernel
theorem dX6_work_6 : decode cX6_work 6 = .ok (.ifCond .lt 11, 3) := by decide +kernel
theorem dX6_work_9 : decode cX6_work 9 = .ok (.iload_n 1, 1) := by decide +kernel
theorem dX6_work_10 : decode cX6_work 10 = .ok (.aload_n 0, 1) := by decide +kernel
theorem dX6_work_11 : decode cX6_work 11 = .ok (.getfield 45, 3) := by decide +kernel
theorem dX6_work_14 : decode cX6_work 14 = .ok (.if_icmp .lt 5, 3) := by decide +kernel
theorem dX6_work_17 : decode cX6_work 17 = .ok (.iconst 0, 1) := by decide +kernel
theorem dX6_work_18 : decode cX6_work 18 = .ok (.ireturn, 1) := by decide +kernel
theorem dX6_work_19 : decode cX6_work 19 = .ok (.iload_n 1, 1) := by decide +kernel
theorem dX6_work_20 : decode cX6_work 20 = .ok (.sipush 161, 3) := by decide +kernel
theorem dX6_work_23 : decode cX6_work 23 = .ok (.imul, 1) := by decide +kernel
theorem dX6_work_24 : decode cX6_work 24 = .ok (.istore_n 2, 1) := by decide +kernel
theorem dX6_work_25 : decode cX6_work 25 = .ok (.iload_n 2, 1) := by decide +kernel
theorem dX6_work_26 : decode cX6_work 26 = .ok (.aload_n 0, 1) := by decide +kernel
theorem dX6_work_27 : decode cX6_work 27 = .ok (.getfield 35, 3) := by decide +kernel
theorem dX6_work_30 : decode cX6_work 30 = .ok (.iload_n 1, 1) := by decide +kernel
theorem dX6_work_31 : decode cX6_work 31 = .ok (.iaload, 1) := by decide +kernel
theorem dX6_work_32 : decode cX6_work 32 = .ok (.iadd, 1) := by decide +kernel
theorem dX6_work_33 : decode cX6_work 33 = .ok (.istore_n 3, 1) := by decide +kernel
theorem dX6_work_34 : decode cX6_work 34 = .ok (.iconst 0, 1) := by decide +kernel
theorem dX6_work_35 : decode cX6_work 35 = .ok (.istore 4, 2) := by decide +kernel
theorem dX6_work_37 : decode cX6_work 37 = .ok (.iconst 0, 1) := by decide +kernel
theorem dX6_work_38 : decode cX6_work 38 = .ok (.istore 5, 2) := by decide +kernel
theorem dX6_work_40 : decode cX6_work 40 = .ok (.iconst 1, 1) := by decide +kernel
theorem dX6_work_41 : decode cX6_work 41 = .ok (.istore 6, 2) := by decide +kernel
theorem dX6_work_43 : decode cX6_work 43 = .ok (.iload_n 2, 1) := by decide +kernel
theorem dX6_work_44 : decode cX6_work 44 = .ok (.istore 7, 2) := by decide +kernel
theorem dX6_work_46 : decode cX6_work 46 = .ok (.iload 7, 2) := by decide +kernel
theorem dX6_work_48 : decode cX6_work 48 = .ok (.iload_n 3, 1) := by decide +kernel
theorem dX6_work_49 : decode cX6_work 49 = .ok (.if_icmp .ge 250, 3) := by decide +kernel
theorem dX6_work_52 : decode cX6_work 52 = .ok (.iload 7, 2) := by decide +kernel
theorem dX6_work_54 : decode cX6_work 54 = .ok (.aload_n 0, 1) := by decide +kernel
theorem dX6_work_55 : decode cX6_work 55 = .ok (.getfield 32, 3) := by decide +kernel
theorem dX6_work_58 : decode cX6_work 58 = .ok (.arraylength, 1) := by decide +kernel
theorem dX6_work_59 : decode cX6_work 59 = .ok (.if_icmp .ge 240, 3) := by decide +kernel
theorem dX6_work_62 : decode cX6_work 62 = .ok (.aload_n 0, 1) := by decide +kernel
theorem dX6_work_63 : decode cX6_work 63 = .ok (.getfield 32, 3) := by decide +kernel
theorem dX6_work_66 : decode cX6_work 66 = .ok (.iload 7, 2) := by decide +kernel
theorem dX6_work_68 : decode cX6_work 68 = .ok (.iaload, 1) := by decide +kernel
theorem dX6_work_69 : decode cX6_work 69 = .ok (.istore 8, 2) := by decide +kernel
theorem dX6_work_71 : decode cX6_work 71 = .ok (.iload 8, 2) := by decide +kernel
theorem dX6_work_73 : decode cX6_work 73 = .ok (.bipush (-20), 2) := by decide +kernel
theorem dX6_work_75 : decode cX6_work 75 = .ok (.if_icmp .le 32, 3) := by decide +kernel
theorem dX6_work_78 : decode cX6_work 78 = .ok (.aload_n 0, 1) := by decide +kernel
theorem dX6_work_79 : decode cX6_work 79 = .ok (.iload 4, 2) := by decide +kernel
theorem dX6_work_81 : decode cX6_work 81 = .ok (.iload 8, 2) := by decide +kernel
theorem dX6_work_83 : decode cX6_work 83 = .ok (.ifCond .lt 8, 3) := by decide +kernel
theorem dX6_work_86 : decode cX6_work 86 = .ok (.iload 8, 2) := by decide +kernel
theorem dX6_work_88 : decode cX6_work 88 = .ok (.goto 11, 3) := by decide +kernel
theorem dX6_work_91 : decode cX6_work 91 = .ok (.aload_n 0, 1) := by decide +kernel
theorem dX6_work_92 : decode cX6_work 92 = .ok (.iconst (-1), 1) := by decide +kernel
theorem dX6_work_93 : decode cX6_work 93 = .ok (.iload 8, 2) := by decide +kernel
theorem dX6_work_95 : decode cX6_work 95 = .ok (.isub, 1) := by decide +kernel
theorem dX6_work_96 : decode cX6_work 96 = .ok (.invokevirtual 174, 3) := by decide +kernel
theorem dX6_work_99 : decode cX6_work 99 = .ok (.invokevirtual 177, 3) := by decide +kernel
theorem dX6_work_102 : decode cX6_work 102 = .ok (.istore 4, 2) := by decide +kernel
theorem dX6_work_104 : decode cX6_work 104 = .ok (.goto 189, 3) := by decide +kernel
theorem dX6_work_107 : decode cX6_work 107 = .ok (.iload 8, 2) := by decide +kernel
theorem dX6_work_109 : decode cX6_work 109 = .ok (.bipush (-31), 2) := by decide +kernel
theorem dX6_work_111 : decode cX6_work 111 = .ok (.if_icmp .eq 10, 3) := by decide +kernel
theorem dX6_work_114 : decode cX6_work 114 = .ok (.iload 8, 2) := by decide +kernel
theorem dX6_work_116 : decode cX6_work 116 = .ok (.bipush (-32), 2) := by decide +kernel
theorem dX6_work_118 : decode cX6_work 118 = .ok (.if_icmp .ne 51, 3) := by decide +kernel
theorem dX6_work_121 : decode cX6_work 121 = .ok (.aload_n 0, 1) := by decide +kernel
theorem dX6_work_122 : decode cX6_work 122 = .ok (.iload 4, 2) := by decide +kernel
theorem dX6_work_124 : decode cX6_work 124 = .ok (.iconst 1, 1) := by decide +kernel
theorem dX6_work_125 : decode cX6_work 125 = .ok (.isub, 1) := by decide +kernel
theorem dX6_work_126 : decode cX6_work 126 = .ok (.iload 8, 2) := by decide +kernel
theorem dX6_work_128 : decode cX6_work 128 = .ok (.bipush (-31), 2) := by decide +kernel
theorem dX6_work_130 : decode cX6_work 130 = .ok (.if_icmp .ne 15, 3) := by decide +kernel
theorem dX6_work_133 : decode cX6_work 133 = .ok (.aload_n 0, 1) := by decide +kernel
theorem dX6_work_134 : decode cX6_work 134 = .ok (.iload 4, 2) := by decide +kernel
theorem dX6_work_136 : decode cX6_work 136 = .ok (.iconst 1, 1) := by decide +kernel
theorem dX6_work_137 : decode cX6_work 137 = .ok (.isub, 1) := by decide +kernel
theorem dX6_work_138 : decode cX6_work 138 = .ok (.invokevirtual 180, 3) := by decide +kernel
theorem dX6_work_141 : decode cX6_work 141 = .ok (.ineg, 1) := by decide +kernel
theorem dX6_work_142 : decode cX6_work 142 = .ok (.goto 19, 3) := by decide +kernel
theorem dX6_work_145 : decode cX6_work 145 = .ok (.aload_n 0, 1) := by decide +kernel
theorem dX6_work_146 : decode cX6_work 146 = .ok (.iload 4, 2) := by decide +kernel
theorem dX6_work_148 : decode cX6_work 148 = .ok (.iconst 1, 1) := by decide +kernel
theorem dX6_work_149 : decode cX6_work 149 = .ok (.isub, 1) := by decide +kernel
theorem dX6_work_150 : decode cX6_work 150 = .ok (.invokevirtual 180, 3) := by decide +kernel
theorem dX6_work_153 : decode cX6_work 153 = .ok (.ifCond .ne 7, 3) := by decide +kernel
theorem dX6_work_156 : decode cX6_work 156 = .ok (.iconst 1, 1) := by decide +kernel
theorem dX6_work_157 : decode cX6_work 157 = .ok (.goto 4, 3) := by decide +kernel
theorem dX6_work_160 : decode cX6_work 160 = .ok (.iconst 0, 1) := by decide +kernel
theorem dX6_work_161 : decode cX6_work 161 = .ok (.invokevirtual 177, 3) := by decide +kernel
theorem dX6_work_164 : decode cX6_work 164 = .ok (.istore 4, 2) := by decide +kernel
theorem dX6_work_166 : decode cX6_work 166 = .ok (.goto 127, 3) := by decide +kernel
theorem dX6_work_169 : decode cX6_work 169 = .ok (.iload 8, 2) := by decide +kernel
theorem dX6_work_171 : decode cX6_work 171 = .ok (.bipush (-33), 2) := by decide +kernel
theorem dX6_work_173 : decode cX6_work 173 = .ok (.if_icmp .eq 10, 3) := by decide +kernel
theorem dX6_work_176 : decode cX6_work 176 = .ok (.iload 8, 2) := by decide +kernel
theorem dX6_work_178 : decode cX6_work 178 = .ok (.bipush (-34), 2) := by decide +kernel
theorem dX6_work_180 : decode cX6_work 180 = .ok (.if_icmp .ne 45, 3) := by decide +kernel
theorem dX6_work_183 : decode cX6_work 183 = .ok (.iinc 4 (-1), 3) := by decide +kernel
theorem dX6_work_186 : decode cX6_work 186 = .ok (.aload_n 0, 1) := by decide +kernel
theorem dX6_work_187 : decode cX6_work 187 = .ok (.iload 4, 2) := by decide +kernel
theorem dX6_work_189 : decode cX6_work 189 = .ok (.invokevirtual 180, 3) := by decide +kernel
theorem dX6_work_192 : decode cX6_work 192 = .ok (.ifCond .eq 7, 3) := by decide +kernel
theorem dX6_work_195 : decode cX6_work 195 = .ok (.iconst 1, 1) := by decide +kernel
theorem dX6_work_196 : decode cX6_work 196 = .ok (.goto 4, 3) := by decide +kernel
theorem dX6_work_199 : decode cX6_work 199 = .ok (.iconst 0, 1) := by decide +kernel
theorem dX6_work_200 : decode cX6_work 200 = .ok (.iload 8, 2) := by decide +kernel
theorem dX6_work_202 : decode cX6_work 202 = .ok (.bipush (-33), 2) := by decide +kernel
theorem dX6_work_204 : decode cX6_work 204 = .ok (.if_icmp .ne 7, 3) := by decide +kernel
theorem dX6_work_207 : decode cX6_work 207 = .ok (.iconst 1, 1) := by decide +kernel
theorem dX6_work_208 : decode cX6_work 208 = .ok (.goto 4, 3) := by decide +kernel
theorem dX6_work_211 : decode cX6_work 211 = .ok (.iconst 0, 1) := by decide +kernel
theorem dX6_work_212 : decode cX6_work 212 = .ok (.if_icmp .ne 7, 3) := by decide +kernel
theorem dX6_work_215 : decode cX6_work 215 = .ok (.iconst 1, 1) := by decide +kernel
theorem dX6_work_216 : decode cX6_work 216 = .ok (.goto 4, 3) := by decide +kernel
theorem dX6_work_219 : decode cX6_work 219 = .ok (.iconst 0, 1) := by decide +kernel
theorem dX6_work_220 : decode cX6_work 220 = .ok (.istore 6, 2) := by decide +kernel
theorem dX6_work_222 : decode cX6_work 222 = .ok (.goto 71, 3) := by decide +kernel
theorem dX6_work_225 : decode cX6_work 225 = .ok (.iload 8, 2) := by decide +kernel
theorem dX6_work_227 : decode cX6_work 227 = .ok (.bipush (-35), 2) := by decide +kernel
theorem dX6_work_229 : decode cX6_work 229 = .ok (.if_icmp .ne 33, 3) := by decide +kernel
theorem dX6_work_232 : decode cX6_work 232 = .ok (.iinc 4 (-1), 3) := by decide +kernel
theorem dX6_work_235 : decode cX6_work 235 = .ok (.iload 6, 2) := by decide +kernel
theorem dX6_work_237 : decode cX6_work 237 = .ok (.ifCond .eq 16, 3) := by decide +kernel
theorem dX6_work_240 : decode cX6_work 240 = .ok (.aload_n 0, 1) := by decide +kernel
theorem dX6_work_241 : decode cX6_work 241 = .ok (.iload 5, 2) := by decide +kernel
theorem dX6_work_243 : decode cX6_work 243 = .ok (.putfield 18, 3) := by decide +kernel
theorem dX6_work_246 : decode cX6_work 246 = .ok (.aload_n 0, 1) := by decide +kernel
theorem dX6_work_247 : decode cX6_work 247 = .ok (.iload 4, 2) := by decide +kernel
theorem dX6_work_249 : decode cX6_work 249 = .ok (.invokevirtual 180, 3) := by decide +kernel
theorem dX6_work_252 : decode cX6_work 252 = .ok (.ireturn, 1) := by decide +kernel
theorem dX6_work_253 : decode cX6_work 253 = .ok (.iinc 5 1, 3) := by decide +kernel
theorem dX6_work_256 : decode cX6_work 256 = .ok (.iconst 1, 1) := by decide +kernel
theorem dX6_work_257 : decode cX6_work 257 = .ok (.istore 6, 2) := by decide +kernel
theorem dX6_work_259 : decode cX6_work 259 = .ok (.goto 34, 3) := by decide +kernel
theorem dX6_work_262 : decode cX6_work 262 = .ok (.aload_n 0, 1) := by decide +kernel
theorem dX6_work_263 : decode cX6_work 263 = .ok (.iload 4, 2) := by decide +kernel
theorem dX6_work_265 : decode cX6_work 265 = .ok (.iconst 2, 1) := by decide +kernel
theorem dX6_work_266 : decode cX6_work 266 = .ok (.isub, 1) := by decide +kernel
theorem dX6_work_267 : decode cX6_work 267 = .ok (.iload 8, 2) := by decide +kernel
theorem dX6_work_269 : decode cX6_work 269 = .ok (.aload_n 0, 1) := by decide +kernel
theorem dX6_work_270 : decode cX6_work 270 = .ok (.iload 4, 2) := by decide +kernel
theorem dX6_work_272 : decode cX6_work 272 = .ok (.iconst 2, 1) := by decide +kernel
theorem dX6_work_273 : decode cX6_work 273 = .ok (.isub, 1) := by decide +kernel
theorem dX6_work_274 : decode cX6_work 274 = .ok (.invokevirtual 180, 3) := by decide +kernel
theorem dX6_work_277 : decode cX6_work 277 = .ok (.aload_n 0, 1) := by decide +kernel
theorem dX6_work_278 : decode cX6_work 278 = .ok (.iload 4, 2) := by decide +kernel
theorem dX6_work_280 : decode cX6_work 280 = .ok (.iconst 1, 1) := by decide +kernel
theorem dX6_work_281 : decode cX6_work 281 = .ok (.isub, 1) := by decide +kernel
theorem dX6_work_282 : decode cX6_work 282 = .ok (.invokevirtual 180, 3) := by decide +kernel
theorem dX6_work_285 : decode cX6_work 285 = .ok (.invokestatic 183, 3) := by decide +kernel
theorem dX6_work_288 : decode cX6_work 288 = .ok (.invokevirtual 177, 3) := by decide +kernel
theorem dX6_work_291 : decode cX6_work 291 = .ok (.istore 4, 2) := by decide +kernel
theorem dX6_work_293 : decode cX6_work 293 = .ok (.iinc 7 1, 3) := by decide +kernel
theorem dX6_work_296 : decode cX6_work 296 = .ok (.goto (-250), 3) := by decide +kernel
theorem dX6_work_299 : decode cX6_work 299 = .ok (.iconst 0, 1) := by decide +kernel
theorem dX6_work_300 : decode cX6_work 300 = .ok (.ireturn, 1) := by decide +kernel
theorem dX6_push_0 : decode cX6_push 0 = .ok (.iload_n 1, 1) := by decide +kernel
theorem dX6_push_1 : decode cX6_push 1 = .ok (.ifCond .lt 16, 3) := by decide +kernel
theorem dX6_push_4 : decode cX6_push 4 = .ok (.iload_n 1, 1) := by decide +kernel
theorem dX6_push_5 : decode cX6_push 5 = .ok (.bipush 64, 2) := by decide +kernel
theorem dX6_push_7 : decode cX6_push 7 = .ok (.if_icmp .ge 10, 3) := by decide +kernel
theorem dX6_push_10 : decode cX6_push 10 = .ok (.aload_n 0, 1) := by decide +kernel
theorem dX6_push_11 : decode cX6_push 11 = .ok (.getfield 38, 3) := by decide +kernel
theorem dX6_push_14 : decode cX6_push 14 = .ok (.iload_n 1, 1) := by decide +kernel
theorem dX6_push_15 : decode cX6_push 15 = .ok (.iload_n 2, 1) := by decide +kernel
theorem dX6_push_16 : decode cX6_push 16 = .ok (.iastore, 1) := by decide +kernel
theorem dX6_push_17 : decode cX6_push 17 = .ok (.iload_n 1, 1) := by decide +kernel
theorem dX6_push_18 : decode cX6_push 18 = .ok (.iconst 1, 1) := by decide +kernel
theorem dX6_push_19 : decode cX6_push 19 = .ok (.iadd, 1) := by decide +kernel
theorem dX6_push_20 : decode cX6_push 20 = .ok (.ireturn, 1) := by decide +kernel
theorem dX6_read_0 : decode cX6_read 0 = .ok (.iload_n 1, 1) := by decide +kernel
theorem dX6_read_1 : decode cX6_read 1 = .ok (.ifCond .lt 9, 3) := by decide +kernel
theorem dX6_read_4 : decode cX6_read 4 = .ok (.iload_n 1, 1) := by decide +kernel
theorem dX6_read_5 : decode cX6_read 5 = .ok (.bipush 64, 2) := by decide +kernel
theorem dX6_read_7 : decode cX6_read 7 = .ok (.if_icmp .lt 7, 3) := by decide +kernel
theorem dX6_read_10 : decode cX6_read 10 = .ok (.iconst 0, 1) := by decide +kernel
theorem dX6_read_11 : decode cX6_read 11 = .ok (.goto 9, 3) := by decide +kernel
theorem dX6_read_14 : decode cX6_read 14 = .ok (.aload_n 0, 1) := by decide +kernel
theorem dX6_read_15 : decode cX6_read 15 = .ok (.getfield 38, 3) := by decide +kernel
theorem dX6_read_18 : decode cX6_read 18 = .ok (.iload_n 1, 1) := by decide +kernel
theorem dX6_read_19 : decode cX6_read 19 = .ok (.iaload, 1) := by decide +kernel
theorem dX6_read_20 : decode cX6_read 20 = .ok (.ireturn, 1) := by decide +kernel
theorem dX6_ofTwo_0 : decode cX6_ofTwo 0 = .ok (.iload_n 0, 1) := by decide +kernel
theorem dX6_ofTwo_1 : decode cX6_ofTwo 1 = .ok (.tableswitch 152 (-30) (-21) #[140, 128, 124, 120, 116, 105, 94, 83, 69, 55], 55) := by decide +kernel
theorem dX6_ofTwo_56 : decode cX6_ofTwo 56 = .ok (.iload_n 1, 1) := by decide +kernel
theorem dX6_ofTwo_57 : decode cX6_ofTwo 57 = .ok (.ifCond .ne 7, 3) := by decide +kernel
theorem dX6_ofTwo_60 : decode cX6_ofTwo 60 = .ok (.iload_n 2, 1) := by decide +kernel
theorem dX6_ofTwo_61 : decode cX6_ofTwo 61 = .ok (.ifCond .eq 7, 3) := by decide +kernel
theorem dX6_ofTwo_64 : decode cX6_ofTwo 64 = .ok (.iconst 1, 1) := by decide +kernel
theorem dX6_ofTwo_65 : decode cX6_ofTwo 65 = .ok (.goto 4, 3) := by decide +kernel
theorem dX6_ofTwo_68 : decode cX6_ofTwo 68 = .ok (.iconst 0, 1) := by decide +kernel
theorem dX6_ofTwo_69 : decode cX6_ofTwo 69 = .ok (.ireturn, 1) := by decide +kernel
theorem dX6_ofTwo_70 : decode cX6_ofTwo 70 = .ok (.iload_n 1, 1) := by decide +kernel
theorem dX6_ofTwo_71 : decode cX6_ofTwo 71 = .ok (.ifCond .eq 11, 3) := by decide +kernel
theorem dX6_ofTwo_74 : decode cX6_ofTwo 74 = .ok (.iload_n 2, 1) := by decide +kernel
theorem dX6_ofTwo_75 : decode cX6_ofTwo 75 = .ok (.ifCond .eq 7, 3) := by decide +kernel
theorem dX6_ofTwo_78 : decode cX6_ofTwo 78 = .ok (.iconst 1, 1) := by decide +kernel
theorem dX6_ofTwo_79 : decode cX6_ofTwo 79 = .ok (.goto 4, 3) := by decide +kernel
theorem dX6_ofTwo_82 : decode cX6_ofTwo 82 = .ok (.iconst 0, 1) := by decide +kernel
theorem dX6_ofTwo_83 : decode cX6_ofTwo 83 = .ok (.ireturn, 1) := by decide +kernel
theorem dX6_ofTwo_84 : decode cX6_ofTwo 84 = .ok (.iload_n 1, 1) := by decide +kernel
theorem dX6_ofTwo_85 : decode cX6_ofTwo 85 = .ok (.iload_n 2, 1) := by decide +kernel
theorem dX6_ofTwo_86 : decode cX6_ofTwo 86 = .ok (.if_icmp .ge 7, 3) := by decide +kernel
theorem dX6_ofTwo_89 : decode cX6_ofTwo 89 = .ok (.iconst 1, 1) := by decide +kernel
theorem dX6_ofTwo_90 : decode cX6_ofTwo 90 = .ok (.goto 4, 3) := by decide +kernel
theorem dX6_ofTwo_93 : decode cX6_ofTwo 93 = .ok (.iconst 0, 1) := by decide +kernel
theorem dX6_ofTwo_94 : decode cX6_ofTwo 94 = .ok (.ireturn, 1) := by decide +kernel
theorem dX6_ofTwo_95 : decode cX6_ofTwo 95 = .ok (.iload_n 1, 1) := by decide +kernel
theorem dX6_ofTwo_96 : decode cX6_ofTwo 96 = .ok (.iload_n 2, 1) := by decide +kernel
theorem dX6_ofTwo_97 : decode cX6_ofTwo 97 = .ok (.if_icmp .ne 7, 3) := by decide +kernel
theorem dX6_ofTwo_100 : decode cX6_ofTwo 100 = .ok (.iconst 1, 1) := by decide +kernel
theorem dX6_ofTwo_101 : decode cX6_ofTwo 101 = .ok (.goto 4, 3) := by decide +kernel
theorem dX6_ofTwo_104 : decode cX6_ofTwo 104 = .ok (.iconst 0, 1) := by decide +kernel
theorem dX6_ofTwo_105 : decode cX6_ofTwo 105 = .ok (.ireturn, 1) := by decide +kernel
theorem dX6_ofTwo_106 : decode cX6_ofTwo 106 = .ok (.iload_n 1, 1) := by decide +kernel
theorem dX6_ofTwo_107 : decode cX6_ofTwo 107 = .ok (.iload_n 2, 1) := by decide +kernel
theorem dX6_ofTwo_108 : decode cX6_ofTwo 108 = .ok (.if_icmp .le 7, 3) := by decide +kernel
theorem dX6_ofTwo_111 : decode cX6_ofTwo 111 = .ok (.iconst 1, 1) := by decide +kernel
theorem dX6_ofTwo_112 : decode cX6_ofTwo 112 = .ok (.goto 4, 3) := by decide +kernel
theorem dX6_ofTwo_115 : decode cX6_ofTwo 115 = .ok (.iconst 0, 1) := by decide +kernel
theorem dX6_ofTwo_116 : decode cX6_ofTwo 116 = .ok (.ireturn, 1) := by decide +kernel
theorem dX6_ofTwo_117 : decode cX6_ofTwo 117 = .ok (.iload_n 1, 1) := by decide +kernel
theorem dX6_ofTwo_118 : decode cX6_ofTwo 118 = .ok (.iload_n 2, 1) := by decide +kernel
theorem dX6_ofTwo_119 : decode cX6_ofTwo 119 = .ok (.iadd, 1) := by decide +kernel
theorem dX6_ofTwo_120 : decode cX6_ofTwo 120 = .ok (.ireturn, 1) := by decide +kernel
theorem dX6_ofTwo_121 : decode cX6_ofTwo 121 = .ok (.iload_n 1, 1) := by decide +kernel
theorem dX6_ofTwo_122 : decode cX6_ofTwo 122 = .ok (.iload_n 2, 1) := by decide +kernel
theorem dX6_ofTwo_123 : decode cX6_ofTwo 123 = .ok (.isub, 1) := by decide +kernel
theorem dX6_ofTwo_124 : decode cX6_ofTwo 124 = .ok (.ireturn, 1) := by decide +kernel
theorem dX6_ofTwo_125 : decode cX6_ofTwo 125 = .ok (.iload_n 1, 1) := by decide +kernel
theorem dX6_ofTwo_126 : decode cX6_ofTwo 126 = .ok (.iload_n 2, 1) := by decide +kernel
theorem dX6_ofTwo_127 : decode cX6_ofTwo 127 = .ok (.imul, 1) := by decide +kernel
theorem dX6_ofTwo_128 : decode cX6_ofTwo 128 = .ok (.ireturn, 1) := by decide +kernel
theorem dX6_ofTwo_129 : decode cX6_ofTwo 129 = .ok (.iload_n 2, 1) := by decide +kernel
theorem dX6_ofTwo_130 : decode cX6_ofTwo 130 = .ok (.ifCond .ne 7, 3) := by decide +kernel
theorem dX6_ofTwo_133 : decode cX6_ofTwo 133 = .ok (.iconst 0, 1) := by decide +kernel
theorem dX6_ofTwo_134 : decode cX6_ofTwo 134 = .ok (.goto 6, 3) := by decide +kernel
theorem dX6_ofTwo_137 : decode cX6_ofTwo 137 = .ok (.iload_n 1, 1) := by decide +kernel
theorem dX6_ofTwo_138 : decode cX6_ofTwo 138 = .ok (.iload_n 2, 1) := by decide +kernel
theorem dX6_ofTwo_139 : decode cX6_ofTwo 139 = .ok (.idiv, 1) := by decide +kernel
theorem dX6_ofTwo_140 : decode cX6_ofTwo 140 = .ok (.ireturn, 1) := by decide +kernel
theorem dX6_ofTwo_141 : decode cX6_ofTwo 141 = .ok (.iload_n 2, 1) := by decide +kernel
theorem dX6_ofTwo_142 : decode cX6_ofTwo 142 = .ok (.ifCond .ne 7, 3) := by decide +kernel
theorem dX6_ofTwo_145 : decode cX6_ofTwo 145 = .ok (.iconst 0, 1) := by decide +kernel
theorem dX6_ofTwo_146 : decode cX6_ofTwo 146 = .ok (.goto 6, 3) := by decide +kernel
theorem dX6_ofTwo_149 : decode cX6_ofTwo 149 = .ok (.iload_n 1, 1) := by decide +kernel
theorem dX6_ofTwo_150 : decode cX6_ofTwo 150 = .ok (.iload_n 2, 1) := by decide +kernel
theorem dX6_ofTwo_151 : decode cX6_ofTwo 151 = .ok (.irem, 1) := by decide +kernel
theorem dX6_ofTwo_152 : decode cX6_ofTwo 152 = .ok (.ireturn, 1) := by decide +kernel
theorem dX6_ofTwo_153 : decode cX6_ofTwo 153 = .ok (.iconst 0, 1) := by decide +kernel
theorem dX6_ofTwo_154 : decode cX6_ofTwo 154 = .ok (.ireturn, 1) := by decide +kernel
theorem dX6_numberOf_0 : decode cX6_numberOf 0 = .ok (.aload_n 0, 1) := by decide +kernel
theorem dX6_numberOf_1 : decode cX6_numberOf 1 = .ok (.getfield 67, 3) := by decide +kernel
theorem dX6_numberOf_4 : decode cX6_numberOf 4 = .ok (.astore_n 2, 1) := by decide +kernel
theorem dX6_numberOf_5 : decode cX6_numberOf 5 = .ok (.aload_n 0, 1) := by decide +kernel
theorem dX6_numberOf_6 : decode cX6_numberOf 6 = .ok (.getfield 71, 3) := by decide +kernel
theorem dX6_numberOf_9 : decode cX6_numberOf 9 = .ok (.astore_n 3, 1) := by decide +kernel
theorem dX6_numberOf_10 : decode cX6_numberOf 10 = .ok (.iload_n 1, 1) := by decide +kernel
theorem dX6_numberOf_11 : decode cX6_numberOf 11 = .ok (.tableswitch 231 0 10 #[57, 62, 67, 87, 105, 123, 136, 149, 154, 181, 206], 57) := by decide +kernel
theorem dX6_numberOf_68 : decode cX6_numberOf 68 = .ok (.aload_n 0, 1) := by decide +kernel
theorem dX6_numberOf_69 : decode cX6_numberOf 69 = .ok (.getfield 64, 3) := by decide +kernel
theorem dX6_numberOf_72 : decode cX6_numberOf 72 = .ok (.ireturn, 1) := by decide +kernel
theorem dX6_numberOf_73 : decode cX6_numberOf 73 = .ok (.aload_n 0, 1) := by decide +kernel
theorem dX6_numberOf_74 : decode cX6_numberOf 74 = .ok (.getfield 80, 3) := by decide +kernel
theorem dX6_numberOf_77 : decode cX6_numberOf 77 = .ok (.ireturn, 1) := by decide +kernel
theorem dX6_numberOf_78 : decode cX6_numberOf 78 = .ok (.aload_n 2, 1) := by decide +kernel
theorem dX6_numberOf_79 : decode cX6_numberOf 79 = .ok (.ifnonnull 7, 3) := by decide +kernel
theorem dX6_numberOf_82 : decode cX6_numberOf 82 = .ok (.iconst 0, 1) := by decide +kernel
theorem dX6_numberOf_83 : decode cX6_numberOf 83 = .ok (.goto 14, 3) := by decide +kernel
theorem dX6_numberOf_86 : decode cX6_numberOf 86 = .ok (.aload_n 0, 1) := by decide +kernel
theorem dX6_numberOf_87 : decode cX6_numberOf 87 = .ok (.getfield 41, 3) := by decide +kernel
theorem dX6_numberOf_90 : decode cX6_numberOf 90 = .ok (.aload_n 2, 1) := by decide +kernel
theorem dX6_numberOf_91 : decode cX6_numberOf 91 = .ok (.getfield 186, 3) := by decide +kernel
theorem dX6_numberOf_94 : decode cX6_numberOf 94 = .ok (.invokevirtual 189, 3) := by decide +kernel
theorem dX6_numberOf_97 : decode cX6_numberOf 97 = .ok (.ireturn, 1) := by decide +kernel
theorem dX6_numberOf_98 : decode cX6_numberOf 98 = .ok (.aload_n 2, 1) := by decide +kernel
theorem dX6_numberOf_99 : decode cX6_numberOf 99 = .ok (.ifnonnull 7, 3) := by decide +kernel
theorem dX6_numberOf_102 : decode cX6_numberOf 102 = .ok (.iconst 0, 1) := by decide +kernel
theorem dX6_numberOf_103 : decode cX6_numberOf 103 = .ok (.goto 12, 3) := by decide +kernel
theorem dX6_numberOf_106 : decode cX6_numberOf 106 = .ok (.aload_n 0, 1) := by decide +kernel
theorem dX6_numberOf_107 : decode cX6_numberOf 107 = .ok (.getfield 64, 3) := by decide +kernel
theorem dX6_numberOf_110 : decode cX6_numberOf 110 = .ok (.aload_n 2, 1) := by decide +kernel
theorem dX6_numberOf_111 : decode cX6_numberOf 111 = .ok (.getfield 192, 3) := by decide +kernel
theorem dX6_numberOf_114 : decode cX6_numberOf 114 = .ok (.isub, 1) := by decide +kernel
theorem dX6_numberOf_115 : decode cX6_numberOf 115 = .ok (.ireturn, 1) := by decide +kernel
theorem dX6_numberOf_116 : decode cX6_numberOf 116 = .ok (.aload_n 3, 1) := by decide +kernel
theorem dX6_numberOf_117 : decode cX6_numberOf 117 = .ok (.ifnonnull 7, 3) := by decide +kernel
theorem dX6_numberOf_120 : decode cX6_numberOf 120 = .ok (.iconst 0, 1) := by decide +kernel
theorem dX6_numberOf_121 : decode cX6_numberOf 121 = .ok (.goto 12, 3) := by decide +kernel
theorem dX6_numberOf_124 : decode cX6_numberOf 124 = .ok (.aload_n 0, 1) := by decide +kernel
theorem dX6_numberOf_125 : decode cX6_numberOf 125 = .ok (.getfield 64, 3) := by decide +kernel
theorem dX6_numberOf_128 : decode cX6_numberOf 128 = .ok (.aload_n 3, 1) := by decide +kernel
theorem dX6_numberOf_129 : decode cX6_numberOf 129 = .ok (.getfield 195, 3) := by decide +kernel
theorem dX6_numberOf_132 : decode cX6_numberOf 132 = .ok (.isub, 1) := by decide +kernel
theorem dX6_numberOf_133 : decode cX6_numberOf 133 = .ok (.ireturn, 1) := by decide +kernel
theorem dX6_numberOf_134 : decode cX6_numberOf 134 = .ok (.aload_n 3, 1) := by decide +kernel
theorem dX6_numberOf_135 : decode cX6_numberOf 135 = .ok (.ifnonnull 7, 3) := by decide +kernel
theorem dX6_numberOf_138 : decode cX6_numberOf 138 = .ok (.iconst 0, 1) := by decide +kernel
theorem dX6_numberOf_139 : decode cX6_numberOf 139 = .ok (.goto 7, 3) := by decide +kernel
theorem dX6_numberOf_142 : decode cX6_numberOf 142 = .ok (.aload_n 3, 1) := by decide +kernel
theorem dX6_numberOf_143 : decode cX6_numberOf 143 = .ok (.getfield 198, 3) := by decide +kernel
theorem dX6_numberOf_146 : decode cX6_numberOf 146 = .ok (.ireturn, 1) := by decide +kernel
theorem dX6_numberOf_147 : decode cX6_numberOf 147 = .ok (.aload_n 3, 1) := by decide +kernel
theorem dX6_numberOf_148 : decode cX6_numberOf 148 = .ok (.ifnonnull 7, 3) := by decide +kernel
theorem dX6_numberOf_151 : decode cX6_numberOf 151 = .ok (.iconst 0, 1) := by decide +kernel
theorem dX6_numberOf_152 : decode cX6_numberOf 152 = .ok (.goto 7, 3) := by decide +kernel
theorem dX6_numberOf_155 : decode cX6_numberOf 155 = .ok (.aload_n 3, 1) := by decide +kernel
theorem dX6_numberOf_156 : decode cX6_numberOf 156 = .ok (.getfield 201, 3) := by decide +kernel
theorem dX6_numberOf_159 : decode cX6_numberOf 159 = .ok (.ireturn, 1) := by decide +kernel
theorem dX6_numberOf_160 : decode cX6_numberOf 160 = .ok (.aload_n 0, 1) := by decide +kernel
theorem dX6_numberOf_161 : decode cX6_numberOf 161 = .ok (.getfield 89, 3) := by decide +kernel
theorem dX6_numberOf_164 : decode cX6_numberOf 164 = .ok (.ireturn, 1) := by decide +kernel
theorem dX6_numberOf_165 : decode cX6_numberOf 165 = .ok (.aload_n 2, 1) := by decide +kernel
theorem dX6_numberOf_166 : decode cX6_numberOf 166 = .ok (.ifnull 10, 3) := by decide +kernel
theorem dX6_numberOf_169 : decode cX6_numberOf 169 = .ok (.aload_n 0, 1) := by decide +kernel
theorem dX6_numberOf_170 : decode cX6_numberOf 170 = .ok (.getfield 86, 3) := by decide +kernel
theorem dX6_numberOf_173 : decode cX6_numberOf 173 = .ok (.ifCond .ge 7, 3) := by decide +kernel
theorem dX6_numberOf_176 : decode cX6_numberOf 176 = .ok (.iconst 0, 1) := by decide +kernel
theorem dX6_numberOf_177 : decode cX6_numberOf 177 = .ok (.goto 14, 3) := by decide +kernel
theorem dX6_numberOf_180 : decode cX6_numberOf 180 = .ok (.aload_n 2, 1) := by decide +kernel
theorem dX6_numberOf_181 : decode cX6_numberOf 181 = .ok (.getfield 204, 3) := by decide +kernel
theorem dX6_numberOf_184 : decode cX6_numberOf 184 = .ok (.aload_n 0, 1) := by decide +kernel
theorem dX6_numberOf_185 : decode cX6_numberOf 185 = .ok (.getfield 86, 3) := by decide +kernel
theorem dX6_numberOf_188 : decode cX6_numberOf 188 = .ok (.invokestatic 169, 3) := by decide +kernel
theorem dX6_numberOf_191 : decode cX6_numberOf 191 = .ok (.ireturn, 1) := by decide +kernel
theorem dX6_numberOf_192 : decode cX6_numberOf 192 = .ok (.aload_n 2, 1) := by decide +kernel
theorem dX6_numberOf_193 : decode cX6_numberOf 193 = .ok (.ifnull 22, 3) := by decide +kernel
theorem dX6_numberOf_196 : decode cX6_numberOf 196 = .ok (.aload_n 3, 1) := by decide +kernel
theorem dX6_numberOf_197 : decode cX6_numberOf 197 = .ok (.ifnull 18, 3) := by decide +kernel
theorem dX6_numberOf_200 : decode cX6_numberOf 200 = .ok (.aload_n 3, 1) := by decide +kernel
theorem dX6_numberOf_201 : decode cX6_numberOf 201 = .ok (.aload_n 2, 1) := by decide +kernel
theorem dX6_numberOf_202 : decode cX6_numberOf 202 = .ok (.getfield 186, 3) := by decide +kernel
theorem dX6_numberOf_205 : decode cX6_numberOf 205 = .ok (.invokevirtual 207, 3) := by decide +kernel
theorem dX6_numberOf_208 : decode cX6_numberOf 208 = .ok (.ifCond .eq 7, 3) := by decide +kernel
theorem dX6_numberOf_211 : decode cX6_numberOf 211 = .ok (.iconst 1, 1) := by decide +kernel
theorem dX6_numberOf_212 : decode cX6_numberOf 212 = .ok (.goto 4, 3) := by decide +kernel
theorem dX6_numberOf_215 : decode cX6_numberOf 215 = .ok (.iconst 0, 1) := by decide +kernel
theorem dX6_numberOf_216 : decode cX6_numberOf 216 = .ok (.ireturn, 1) := by decide +kernel
theorem dX6_numberOf_217 : decode cX6_numberOf 217 = .ok (.aload_n 2, 1) := by decide +kernel
theorem dX6_numberOf_218 : decode cX6_numberOf 218 = .ok (.ifnull 22, 3) := by decide +kernel
theorem dX6_numberOf_221 : decode cX6_numberOf 221 = .ok (.aload_n 3, 1) := by decide +kernel
theorem dX6_numberOf_222 : decode cX6_numberOf 222 = .ok (.ifnull 18, 3) := by decide +kernel
theorem dX6_numberOf_225 : decode cX6_numberOf 225 = .ok (.aload_n 3, 1) := by decide +kernel
theorem dX6_numberOf_226 : decode cX6_numberOf 226 = .ok (.getfield 211, 3) := by decide +kernel
theorem dX6_numberOf_229 : decode cX6_numberOf 229 = .ok (.aload_n 2, 1) := by decide +kernel
theorem dX6_numberOf_230 : decode cX6_numberOf 230 = .ok (.getfield 186, 3) := by decide +kernel
theorem dX6_numberOf_233 : decode cX6_numberOf 233 = .ok (.if_icmp .ne 7, 3) := by decide +kernel
theorem dX6_numberOf_236 : decode cX6_numberOf 236 = .ok (.iconst 1, 1) := by decide +kernel
theorem dX6_numberOf_237 : decode cX6_numberOf 237 = .ok (.goto 4, 3) := by decide +kernel
theorem dX6_numberOf_240 : decode cX6_numberOf 240 = .ok (.iconst 0, 1) := by decide +kernel
theorem dX6_numberOf_241 : decode cX6_numberOf 241 = .ok (.ireturn, 1) := by decide +kernel
theorem dX6_numberOf_242 : decode cX6_numberOf 242 = .ok (.iconst 0, 1) := by decide +kernel
theorem dX6_numberOf_243 : decode cX6_numberOf 243 = .ok (.ireturn, 1) := by decide +kernel
theorem dX7_init_0 : decode cX7_init 0 = .ok (.aload_n 0, 1) := by decide +kernel
theorem dX7_init_1 : decode cX7_init 1 = .ok (.invokespecial 3, 3) := by decide +kernel
theorem dX7_init_4 : decode cX7_init 4 = .ok (.aload_n 0, 1) := by decide +kernel
theorem dX7_init_5 : decode cX7_init 5 = .ok (.bipush 60, 2) := by decide +kernel
theorem dX7_init_7 : decode cX7_init 7 = .ok (.newarray .long, 2) := by decide +kernel
theorem dX7_init_9 : decode cX7_init 9 = .ok (.putfield 9, 3) := by decide +kernel
theorem dX7_init_12 : decode cX7_init 12 = .ok (.return_, 1) := by decide +kernel
theorem dX7_hold_0 : decode cX7_hold 0 = .ok (.aload_n 0, 1) := by decide +kernel
theorem dX7_hold_1 : decode cX7_hold 1 = .ok (.aload_n 1, 1) := by decide +kernel
theorem dX7_hold_2 : decode cX7_hold 2 = .ok (.putfield 15, 3) := by decide +kernel
theorem dX7_hold_5 : decode cX7_hold 5 = .ok (.aload_n 0, 1) := by decide +kernel
theorem dX7_hold_6 : decode cX7_hold 6 = .ok (.iconst 0, 1) := by decide +kernel
theorem dX7_hold_7 : decode cX7_hold 7 = .ok (.putfield 19, 3) := by decide +kernel
theorem dX7_hold_10 : decode cX7_hold 10 = .ok (.return_, 1) := by decide +kernel
theorem dX7_holdRow_0 : decode cX7_holdRow 0 = .ok (.aload_n 0, 1) := by decide +kernel
theorem dX7_holdRow_1 : decode cX7_holdRow 1 = .ok (.aconst_null, 1) := by decide +kernel
theorem dX7_holdRow_2 : decode cX7_holdRow 2 = .ok (.putfield 15, 3) := by decide +kernel
theorem dX7_holdRow_5 : decode cX7_holdRow 5 = .ok (.aload_n 0, 1) := by decide +kernel
theorem dX7_holdRow_6 : decode cX7_holdRow 6 = .ok (.iconst 1, 1) := by decide +kernel
theorem dX7_holdRow_7 : decode cX7_holdRow 7 = .ok (.putfield 19, 3) := by decide +kernel
theorem dX7_holdRow_10 : decode cX7_holdRow 10 = .ok (.aload_n 0, 1) := by decide +kernel
theorem dX7_holdRow_11 : decode cX7_holdRow 11 = .ok (.iload_n 1, 1) := by decide +kernel
theorem dX7_holdRow_12 : decode cX7_holdRow 12 = .ok (.putfield 23, 3) := by decide +kernel
theorem dX7_holdRow_15 : decode cX7_holdRow 15 = .ok (.aload_n 0, 1) := by decide +kernel
theorem dX7_holdRow_16 : decode cX7_holdRow 16 = .ok (.iload_n 2, 1) := by decide +kernel
theorem dX7_holdRow_17 : decode cX7_holdRow 17 = .ok (.putfield 27, 3) := by decide +kernel
theorem dX7_holdRow_20 : decode cX7_holdRow 20 = .ok (.aload_n 0, 1) := by decide +kernel
theorem dX7_holdRow_21 : decode cX7_holdRow 21 = .ok (.getfield 9, 3) := by decide +kernel
theorem dX7_holdRow_24 : decode cX7_holdRow 24 = .ok (.lconst 0, 1) := by decide +kernel
theorem dX7_holdRow_25 : decode cX7_holdRow 25 = .ok (.invokestatic 30, 3) := by decide +kernel
theorem dX7_holdRow_28 : decode cX7_holdRow 28 = .ok (.return_, 1) := by decide +kernel
theorem dX7_isEmpty_0 : decode cX7_isEmpty 0 = .ok (.aload_n 0, 1) := by decide +kernel
theorem dX7_isEmpty_1 : decode cX7_isEmpty 1 = .ok (.getfield 15, 3) := by decide +kernel
theorem dX7_isEmpty_4 : decode cX7_isEmpty 4 = .ok (.ifnonnull 14, 3) := by decide +kernel
theorem dX7_isEmpty_7 : decode cX7_isEmpty 7 = .ok (.aload_n 0, 1) := by decide +kernel
theorem dX7_isEmpty_8 : decode cX7_isEmpty 8 = .ok (.getfield 19, 3) := by decide +kernel
theorem dX7_isEmpty_11 : decode cX7_isEmpty 11 = .ok (.ifCond .ne 7, 3) := by decide +kernel
theorem dX7_isEmpty_14 : decode cX7_isEmpty 14 = .ok (.iconst 1, 1) := by decide +kernel
theorem dX7_isEmpty_15 : decode cX7_isEmpty 15 = .ok (.goto 4, 3) := by decide +kernel
theorem dX7_isEmpty_18 : decode cX7_isEmpty 18 = .ok (.iconst 0, 1) := by decide +kernel
theorem dX7_isEmpty_19 : decode cX7_isEmpty 19 = .ok (.ireturn, 1) := by decide +kernel
theorem dX7_isRowOf_0 : decode cX7_isRowOf 0 = .ok (.aload_n 0, 1) := by decide +kernel
theorem dX7_isRowOf_1 : decode cX7_isRowOf 1 = .ok (.getfield 19, 3) := by decide +kernel
theorem dX7_isRowOf_4 : decode cX7_isRowOf 4 = .ok (.ifCond .eq 15, 3) := by decide +kernel
theorem dX7_isRowOf_7 : decode cX7_isRowOf 7 = .ok (.aload_n 0, 1) := by decide +kernel
theorem dX7_isRowOf_8 : decode cX7_isRowOf 8 = .ok (.getfield 23, 3) := by decide +kernel
theorem dX7_isRowOf_11 : decode cX7_isRowOf 11 = .ok (.iload_n 1, 1) := by decide +kernel
theorem dX7_isRowOf_12 : decode cX7_isRowOf 12 = .ok (.if_icmp .ne 7, 3) := by decide +kernel
theorem dX7_isRowOf_15 : decode cX7_isRowOf 15 = .ok (.iconst 1, 1) := by decide +kernel
theorem dX7_isRowOf_16 : decode cX7_isRowOf 16 = .ok (.goto 4, 3) := by decide +kernel
theorem dX7_isRowOf_19 : decode cX7_isRowOf 19 = .ok (.iconst 0, 1) := by decide +kernel
theorem dX7_isRowOf_20 : decode cX7_isRowOf 20 = .ok (.ireturn, 1) := by decide +kernel
theorem dX7_hasPlaces_0 : decode cX7_hasPlaces 0 = .ok (.aload_n 0, 1) := by decide +kernel
theorem dX7_hasPlaces_1 : decode cX7_hasPlaces 1 = .ok (.getfield 19, 3) := by decide +kernel
theorem dX7_hasPlaces_4 : decode cX7_hasPlaces 4 = .ok (.ifCond .eq 29, 3) := by decide +kernel
theorem dX7_hasPlaces_7 : decode cX7_hasPlaces 7 = .ok (.lload_n 1, 1) := by decide +kernel
theorem dX7_hasPlaces_8 : decode cX7_hasPlaces 8 = .ok (.lconst 0, 1) := by decide +kernel
theorem dX7_hasPlaces_9 : decode cX7_hasPlaces 9 = .ok (.lcmp, 1) := by decide +kernel
theorem dX7_hasPlaces_10 : decode cX7_hasPlaces 10 = .ok (.ifCond .lt 23, 3) := by decide +kernel
theorem dX7_hasPlaces_13 : decode cX7_hasPlaces 13 = .ok (.iload_n 3, 1) := by decide +kernel
theorem dX7_hasPlaces_14 : decode cX7_hasPlaces 14 = .ok (.ifCond .lt 19, 3) := by decide +kernel
theorem dX7_hasPlaces_17 : decode cX7_hasPlaces 17 = .ok (.lload_n 1, 1) := by decide +kernel
theorem dX7_hasPlaces_18 : decode cX7_hasPlaces 18 = .ok (.aload_n 0, 1) := by decide +kernel
theorem dX7_hasPlaces_19 : decode cX7_hasPlaces 19 = .ok (.getfield 27, 3) := by decide +kernel
theorem dX7_hasPlaces_22 : decode cX7_hasPlaces 22 = .ok (.iload_n 3, 1) := by decide +kernel
theorem dX7_hasPlaces_23 : decode cX7_hasPlaces 23 = .ok (.isub, 1) := by decide +kernel
theorem dX7_hasPlaces_24 : decode cX7_hasPlaces 24 = .ok (.i2l, 1) := by decide +kernel
theorem dX7_hasPlaces_25 : decode cX7_hasPlaces 25 = .ok (.lcmp, 1) := by decide +kernel
theorem dX7_hasPlaces_26 : decode cX7_hasPlaces 26 = .ok (.ifCond .gt 7, 3) := by decide +kernel
theorem dX7_hasPlaces_29 : decode cX7_hasPlaces 29 = .ok (.iconst 1, 1) := by decide +kernel
theorem dX7_hasPlaces_30 : decode cX7_hasPlaces 30 = .ok (.goto 4, 3) := by decide +kernel
theorem dX7_hasPlaces_33 : decode cX7_hasPlaces 33 = .ok (.iconst 0, 1) := by decide +kernel
theorem dX7_hasPlaces_34 : decode cX7_hasPlaces 34 = .ok (.ireturn, 1) := by decide +kernel
theorem dX7_elementOr_0 : decode cX7_elementOr 0 = .ok (.aload_n 0, 1) := by decide +kernel
theorem dX7_elementOr_1 : decode cX7_elementOr 1 = .ok (.lload_n 1, 1) := by decide +kernel
theorem dX7_elementOr_2 : decode cX7_elementOr 2 = .ok (.iconst 1, 1) := by decide +kernel
theorem dX7_elementOr_3 : decode cX7_elementOr 3 = .ok (.invokevirtual 36, 3) := by decide +kernel
theorem dX7_elementOr_6 : decode cX7_elementOr 6 = .ok (.ifCond .eq 13, 3) := by decide +kernel
theorem dX7_elementOr_9 : decode cX7_elementOr 9 = .ok (.aload_n 0, 1) := by decide +kernel
theorem dX7_elementOr_10 : decode cX7_elementOr 10 = .ok (.getfield 9, 3) := by decide +kernel
theorem dX7_elementOr_13 : decode cX7_elementOr 13 = .ok (.lload_n 1, 1) := by decide +kernel
theorem dX7_elementOr_14 : decode cX7_elementOr 14 = .ok (.l2i, 1) := by decide +kernel
theorem dX7_elementOr_15 : decode cX7_elementOr 15 = .ok (.laload, 1) := by decide +kernel
theorem dX7_elementOr_16 : decode cX7_elementOr 16 = .ok (.goto 4, 3) := by decide +kernel
theorem dX7_elementOr_19 : decode cX7_elementOr 19 = .ok (.lload_n 3, 1) := by decide +kernel
theorem dX7_elementOr_20 : decode cX7_elementOr 20 = .ok (.lreturn, 1) := by decide +kernel
theorem dX7_refusalOf_0 : decode cX7_refusalOf 0 = .ok (.aload_n 0, 1) := by decide +kernel
theorem dX7_refusalOf_1 : decode cX7_refusalOf 1 = .ok (.invokevirtual 40, 3) := by decide +kernel
theorem dX7_refusalOf_4 : decode cX7_refusalOf 4 = .ok (.ifCond .eq 6, 3) := by decide +kernel
theorem dX7_refusalOf_7 : decode cX7_refusalOf 7 = .ok (.bipush (-11), 2) := by decide +kernel
theorem dX7_refusalOf_9 : decode cX7_refusalOf 9 = .ok (.ireturn, 1) := by decide +kernel
theorem dX7_refusalOf_10 : decode cX7_refusalOf 10 = .ok (.aload_n 0, 1) := by decide +kernel
theorem dX7_refusalOf_11 : decode cX7_refusalOf 11 = .ok (.getfield 19, 3) := by decide +kernel
theorem dX7_refusalOf_14 : decode cX7_refusalOf 14 = .ok (.ifCond .ne 6, 3) := by decide +kernel
theorem dX7_refusalOf_17 : decode cX7_refusalOf 17 = .ok (.bipush (-12), 2) := by decide +kernel
theorem dX7_refusalOf_19 : decode cX7_refusalOf 19 = .ok (.ireturn, 1) := by decide +kernel
theorem dX7_refusalOf_20 : decode cX7_refusalOf 20 = .ok (.aload_n 0, 1) := by decide +kernel
theorem dX7_refusalOf_21 : decode cX7_refusalOf 21 = .ok (.iload_n 1, 1) := by decide +kernel
theorem dX7_refusalOf_22 : decode cX7_refusalOf 22 = .ok (.i2l, 1) := by decide +kernel
theorem dX7_refusalOf_23 : decode cX7_refusalOf 23 = .ok (.iconst 1, 1) := by decide +kernel
theorem dX7_refusalOf_24 : decode cX7_refusalOf 24 = .ok (.invokevirtual 36, 3) := by decide +kernel
theorem dX7_refusalOf_27 : decode cX7_refusalOf 27 = .ok (.ifCond .eq 7, 3) := by decide +kernel
theorem dX7_refusalOf_30 : decode cX7_refusalOf 30 = .ok (.iconst 0, 1) := by decide +kernel
theorem dX7_refusalOf_31 : decode cX7_refusalOf 31 = .ok (.goto 5, 3) := by decide +kernel
theorem dX7_refusalOf_34 : decode cX7_refusalOf 34 = .ok (.bipush (-13), 2) := by decide +kernel
theorem dX7_refusalOf_36 : decode cX7_refusalOf 36 = .ok (.ireturn, 1) := by decide +kernel
theorem dX7_setElement_0 : decode cX7_setElement 0 = .ok (.aload_n 0, 1) := by decide +kernel
theorem dX7_setElement_1 : decode cX7_setElement 1 = .ok (.iload_n 1, 1) := by decide +kernel
theorem dX7_setElement_2 : decode cX7_setElement 2 = .ok (.i2l, 1) := by decide +kernel
theorem dX7_setElement_3 : decode cX7_setElement 3 = .ok (.iconst 1, 1) := by decide +kernel
theorem dX7_setElement_4 : decode cX7_setElement 4 = .ok (.invokevirtual 36, 3) := by decide +kernel
theorem dX7_setElement_7 : decode cX7_setElement 7 = .ok (.ifCond .eq 14, 3) := by decide +kernel
theorem dX7_setElement_10 : decode cX7_setElement 10 = .ok (.aload_n 0, 1) := by decide +kernel
theorem dX7_setElement_11 : decode cX7_setElement 11 = .ok (.getfield 9, 3) := by decide +kernel
theorem dX7_setElement_14 : decode cX7_setElement 14 = .ok (.iload_n 1, 1) := by decide +kernel
theorem dX7_setElement_15 : decode cX7_setElement 15 = .ok (.aload_n 0, 1) := by decide +kernel
theorem dX7_setElement_16 : decode cX7_setElement 16 = .ok (.lload_n 2, 1) := by decide +kernel
theorem dX7_setElement_17 : decode cX7_setElement 17 = .ok (.invokevirtual 44, 3) := by decide +kernel
theorem dX7_setElement_20 : decode cX7_setElement 20 = .ok (.lastore, 1) := by decide +kernel
theorem dX7_setElement_21 : decode cX7_setElement 21 = .ok (.return_, 1) := by decide +kernel
theorem dX7_narrowed_0 : decode cX7_narrowed 0 = .ok (.aload_n 0, 1) := by decide +kernel
theorem dX7_narrowed_1 : decode cX7_narrowed 1 = .ok (.getfield 23, 3) := by decide +kernel
theorem dX7_narrowed_4 : decode cX7_narrowed 4 = .ok (.tableswitch 48 0 3 #[32, 37, 42, 46], 32) := by decide +kernel
theorem dX7_narrowed_36 : decode cX7_narrowed 36 = .ok (.lload_n 1, 1) := by decide +kernel
theorem dX7_narrowed_37 : decode cX7_narrowed 37 = .ok (.l2i, 1) := by decide +kernel
theorem dX7_narrowed_38 : decode cX7_narrowed 38 = .ok (.i2b, 1) := by decide +kernel
theorem dX7_narrowed_39 : decode cX7_narrowed 39 = .ok (.i2l, 1) := by decide +kernel
theorem dX7_narrowed_40 : decode cX7_narrowed 40 = .ok (.lreturn, 1) := by decide +kernel
theorem dX7_narrowed_41 : decode cX7_narrowed 41 = .ok (.lload_n 1, 1) := by decide +kernel
theorem dX7_narrowed_42 : decode cX7_narrowed 42 = .ok (.l2i, 1) := by decide +kernel
theorem dX7_narrowed_43 : decode cX7_narrowed 43 = .ok (.i2s, 1) := by decide +kernel
theorem dX7_narrowed_44 : decode cX7_narrowed 44 = .ok (.i2l, 1) := by decide +kernel
theorem dX7_narrowed_45 : decode cX7_narrowed 45 = .ok (.lreturn, 1) := by decide +kernel
theorem dX7_narrowed_46 : decode cX7_narrowed 46 = .ok (.lload_n 1, 1) := by decide +kernel
theorem dX7_narrowed_47 : decode cX7_narrowed 47 = .ok (.l2i, 1) := by decide +kernel
theorem dX7_narrowed_48 : decode cX7_narrowed 48 = .ok (.i2l, 1) := by decide +kernel
theorem dX7_narrowed_49 : decode cX7_narrowed 49 = .ok (.lreturn, 1) := by decide +kernel
theorem dX7_narrowed_50 : decode cX7_narrowed 50 = .ok (.lload_n 1, 1) := by decide +kernel
theorem dX7_narrowed_51 : decode cX7_narrowed 51 = .ok (.lreturn, 1) := by decide +kernel
theorem dX7_narrowed_52 : decode cX7_narrowed 52 = .ok (.lload_n 1, 1) := by decide +kernel
theorem dX7_narrowed_53 : decode cX7_narrowed 53 = .ok (.lconst 0, 1) := by decide +kernel
theorem dX7_narrowed_54 : decode cX7_narrowed 54 = .ok (.lcmp, 1) := by decide +kernel
theorem dX7_narrowed_55 : decode cX7_narrowed 55 = .ok (.ifCond .eq 7, 3) := by decide +kernel
theorem dX7_narrowed_58 : decode cX7_narrowed 58 = .ok (.lconst 1, 1) := by decide +kernel
theorem dX7_narrowed_59 : decode cX7_narrowed 59 = .ok (.goto 4, 3) := by decide +kernel
theorem dX7_narrowed_62 : decode cX7_narrowed 62 = .ok (.lconst 0, 1) := by decide +kernel
theorem dX7_narrowed_63 : decode cX7_narrowed 63 = .ok (.lreturn, 1) := by decide +kernel
theorem dX8_init_0 : decode cX8_init 0 = .ok (.aload_n 0, 1) := by decide +kernel
theorem dX8_init_1 : decode cX8_init 1 = .ok (.invokespecial 3, 3) := by decide +kernel
theorem dX8_init_4 : decode cX8_init 4 = .ok (.aload_n 0, 1) := by decide +kernel
theorem dX8_init_5 : decode cX8_init 5 = .ok (.sipush 160, 3) := by decide +kernel
theorem dX8_init_8 : decode cX8_init 8 = .ok (.newarray .int, 2) := by decide +kernel
theorem dX8_init_10 : decode cX8_init 10 = .ok (.putfield 9, 3) := by decide +kernel
theorem dX8_init_13 : decode cX8_init 13 = .ok (.aload_n 0, 1) := by decide +kernel
theorem dX8_init_14 : decode cX8_init 14 = .ok (.sipush 161, 3) := by decide +kernel
theorem dX8_init_17 : decode cX8_init 17 = .ok (.newarray .int, 2) := by decide +kernel
theorem dX8_init_19 : decode cX8_init 19 = .ok (.putfield 13, 3) := by decide +kernel
theorem dX8_init_22 : decode cX8_init 22 = .ok (.aload_n 0, 1) := by decide +kernel
theorem dX8_init_23 : decode cX8_init 23 = .ok (.sipush 161, 3) := by decide +kernel
theorem dX8_init_26 : decode cX8_init 26 = .ok (.newarray .int, 2) := by decide +kernel
theorem dX8_init_28 : decode cX8_init 28 = .ok (.putfield 16, 3) := by decide +kernel
theorem dX8_init_31 : decode cX8_init 31 = .ok (.aload_n 0, 1) := by decide +kernel
theorem dX8_init_32 : decode cX8_init 32 = .ok (.sipush 161, 3) := by decide +kernel
theorem dX8_init_35 : decode cX8_init 35 = .ok (.newarray .int, 2) := by decide +kernel
theorem dX8_init_37 : decode cX8_init 37 = .ok (.putfield 19, 3) := by decide +kernel
theorem dX8_init_40 : decode cX8_init 40 = .ok (.aload_n 0, 1) := by decide +kernel
theorem dX8_init_41 : decode cX8_init 41 = .ok (.sipush 161, 3) := by decide +kernel
theorem dX8_init_44 : decode cX8_init 44 = .ok (.newarray .int, 2) := by decide +kernel
theorem dX8_init_46 : decode cX8_init 46 = .ok (.putfield 22, 3) := by decide +kernel
theorem dX8_init_49 : decode cX8_init 49 = .ok (.return_, 1) := by decide +kernel
theorem dX8_hasRoomFor_0 : decode cX8_hasRoomFor 0 = .ok (.aload_n 0, 1) := by decide +kernel
theorem dX8_hasRoomFor_1 : decode cX8_hasRoomFor 1 = .ok (.getfield 25, 3) := by decide +kernel
theorem dX8_hasRoomFor_4 : decode cX8_hasRoomFor 4 = .ok (.sipush 160, 3) := by decide +kernel
theorem dX8_hasRoomFor_7 : decode cX8_hasRoomFor 7 = .ok (.iload_n 1, 1) := by decide +kernel
theorem dX8_hasRoomFor_8 : decode cX8_hasRoomFor 8 = .ok (.isub, 1) := by decide +kernel
theorem dX8_hasRoomFor_9 : decode cX8_hasRoomFor 9 = .ok (.if_icmp .gt 7, 3) := by decide +kernel
theorem dX8_hasRoomFor_12 : decode cX8_hasRoomFor 12 = .ok (.iconst 1, 1) := by decide +kernel
theorem dX8_hasRoomFor_13 : decode cX8_hasRoomFor 13 = .ok (.goto 4, 3) := by decide +kernel
theorem dX8_hasRoomFor_16 : decode cX8_hasRoomFor 16 = .ok (.iconst 0, 1) := by decide +kernel
theorem dX8_hasRoomFor_17 : decode cX8_hasRoomFor 17 = .ok (.ireturn, 1) := by decide +kernel
theorem dX8_append_0 : decode cX8_append 0 = .ok (.aload_n 0, 1) := by decide +kernel
theorem dX8_append_1 : decode cX8_append 1 = .ok (.getfield 25, 3) := by decide +kernel
theorem dX8_append_4 : decode cX8_append 4 = .ok (.sipush 160, 3) := by decide +kernel
theorem dX8_append_7 : decode cX8_append 7 = .ok (.if_icmp .ge 23, 3) := by decide +kernel
theorem dX8_append_10 : decode cX8_append 10 = .ok (.aload_n 0, 1) := by decide +kernel
theorem dX8_append_11 : decode cX8_append 11 = .ok (.getfield 9, 3) := by decide +kernel
theorem dX8_append_14 : decode cX8_append 14 = .ok (.aload_n 0, 1) := by decide +kernel
theorem dX8_append_15 : decode cX8_append 15 = .ok (.getfield 25, 3) := by decide +kernel
theorem dX8_append_18 : decode cX8_append 18 = .ok (.iload_n 1, 1) := by decide +kernel
theorem dX8_append_19 : decode cX8_append 19 = .ok (.iastore, 1) := by decide +kernel
theorem dX8_append_20 : decode cX8_append 20 = .ok (.aload_n 0, 1) := by decide +kernel
theorem dX8_append_21 : decode cX8_append 21 = .ok (.dup, 1) := by decide +kernel
theorem dX8_append_22 : decode cX8_append 22 = .ok (.getfield 25, 3) := by decide +kernel
theorem dX8_append_25 : decode cX8_append 25 = .ok (.iconst 1, 1) := by decide +kernel
theorem dX8_append_26 : decode cX8_append 26 = .ok (.iadd, 1) := by decide +kernel
theorem dX8_append_27 : decode cX8_append 27 = .ok (.putfield 25, 3) := by decide +kernel
theorem dX8_append_30 : decode cX8_append 30 = .ok (.return_, 1) := by decide +kernel
theorem dX8_copyCode_0 : decode cX8_copyCode 0 = .ok (.iload_n 2, 1) := by decide +kernel
theorem dX8_copyCode_1 : decode cX8_copyCode 1 = .ok (.ifCond .lt 14, 3) := by decide +kernel
theorem dX8_copyCode_4 : decode cX8_copyCode 4 = .ok (.iload_n 2, 1) := by decide +kernel
theorem dX8_copyCode_5 : decode cX8_copyCode 5 = .ok (.aload_n 1, 1) := by decide +kernel
theorem dX8_copyCode_6 : decode cX8_copyCode 6 = .ok (.arraylength, 1) := by decide +kernel
theorem dX8_copyCode_7 : decode cX8_copyCode 7 = .ok (.aload_n 0, 1) := by decide +kernel
theorem dX8_copyCode_8 : decode cX8_copyCode 8 = .ok (.getfield 29, 3) := by decide +kernel
theorem dX8_copyCode_11 : decode cX8_copyCode 11 = .ok (.isub, 1) := by decide +kernel
theorem dX8_copyCode_12 : decode cX8_copyCode 12 = .ok (.if_icmp .le 5, 3) := by decide +kernel
theorem dX8_copyCode_15 : decode cX8_copyCode 15 = .ok (.iconst 0, 1) := by decide +kernel
theorem dX8_copyCode_16 : decode cX8_copyCode 16 = .ok (.ireturn, 1) := by decide +kernel
theorem dX8_copyCode_17 : decode cX8_copyCode 17 = .ok (.aload_n 0, 1) := by decide +kernel
theorem dX8_copyCode_18 : decode cX8_copyCode 18 = .ok (.getfield 22, 3) := by decide +kernel
theorem dX8_copyCode_21 : decode cX8_copyCode 21 = .ok (.iconst 0, 1) := by decide +kernel
theorem dX8_copyCode_22 : decode cX8_copyCode 22 = .ok (.aload_n 1, 1) := by decide +kernel
theorem dX8_copyCode_23 : decode cX8_copyCode 23 = .ok (.iload_n 2, 1) := by decide +kernel
theorem dX8_copyCode_24 : decode cX8_copyCode 24 = .ok (.aload_n 0, 1) := by decide +kernel
theorem dX8_copyCode_25 : decode cX8_copyCode 25 = .ok (.getfield 29, 3) := by decide +kernel
theorem dX8_copyCode_28 : decode cX8_copyCode 28 = .ok (.invokestatic 32, 3) := by decide +kernel
theorem dX8_copyCode_31 : decode cX8_copyCode 31 = .ok (.aload_n 0, 1) := by decide +kernel
theorem dX8_copyCode_32 : decode cX8_copyCode 32 = .ok (.getfield 29, 3) := by decide +kernel
theorem dX8_copyCode_35 : decode cX8_copyCode 35 = .ok (.ireturn, 1) := by decide +kernel
theorem dX8_compile_0 : decode cX8_compile 0 = .ok (.aload_n 0, 1) := by decide +kernel
theorem dX8_compile_1 : decode cX8_compile 1 = .ok (.invokevirtual 38, 3) := by decide +kernel
theorem dX8_compile_4 : decode cX8_compile 4 = .ok (.aload_n 0, 1) := by decide +kernel
theorem dX8_compile_5 : decode cX8_compile 5 = .ok (.iconst 0, 1) := by decide +kernel
theorem dX8_compile_6 : decode cX8_compile 6 = .ok (.putfield 29, 3) := by decide +kernel
theorem dX8_compile_9 : decode cX8_compile 9 = .ok (.aload_n 0, 1) := by decide +kernel
theorem dX8_compile_10 : decode cX8_compile 10 = .ok (.iconst (-1), 1) := by decide +kernel
theorem dX8_compile_11 : decode cX8_compile 11 = .ok (.putfield 41, 3) := by decide +kernel
theorem dX8_compile_14 : decode cX8_compile 14 = .ok (.aload_n 0, 1) := by decide +kernel
theorem dX8_compile_15 : decode cX8_compile 15 = .ok (.iconst 0, 1) := by decide +kernel
theorem dX8_compile_16 : decode cX8_compile 16 = .ok (.putfield 44, 3) := by decide +kernel
theorem dX8_compile_19 : decode cX8_compile 19 = .ok (.aload_n 0, 1) := by decide +kernel
theorem dX8_compile_20 : decode cX8_compile 20 = .ok (.aload_n 0, 1) := by decide +kernel
theorem dX8_compile_21 : decode cX8_compile 21 = .ok (.getfield 13, 3) := by decide +kernel
theorem dX8_compile_24 : decode cX8_compile 24 = .ok (.iconst 0, 1) := by decide +kernel
theorem dX8_compile_25 : decode cX8_compile 25 = .ok (.iaload, 1) := by decide +kernel
theorem dX8_compile_26 : decode cX8_compile 26 = .ok (.putfield 47, 3) := by decide +kernel
theorem dX8_compile_29 : decode cX8_compile 29 = .ok (.aload_n 0, 1) := by decide +kernel
theorem dX8_compile_30 : decode cX8_compile 30 = .ok (.invokevirtual 50, 3) := by decide +kernel
theorem dX8_compile_33 : decode cX8_compile 33 = .ok (.iconst 0, 1) := by decide +kernel
theorem dX8_compile_34 : decode cX8_compile 34 = .ok (.istore_n 1, 1) := by decide +kernel
theorem dX8_compile_35 : decode cX8_compile 35 = .ok (.iload_n 1, 1) := by decide +kernel
theorem dX8_compile_36 : decode cX8_compile 36 = .ok (.sipush 160, 3) := by decide +kernel
theorem dX8_compile_39 : decode cX8_compile 39 = .ok (.if_icmp .ge 33, 3) := by decide +kernel
theorem dX8_compile_42 : decode cX8_compile 42 = .ok (.aload_n 0, 1) := by decide +kernel
theorem dX8_compile_43 : decode cX8_compile 43 = .ok (.getfield 41, 3) := by decide +kernel
theorem dX8_compile_46 : decode cX8_compile 46 = .ok (.ifCond .ge 26, 3) := by decide +kernel
theorem dX8_compile_49 : decode cX8_compile 49 = .ok (.aload_n 0, 1) := by decide +kernel
theorem dX8_compile_50 : decode cX8_compile 50 = .ok (.getfield 47, 3) := by decide +kernel
theorem dX8_compile_53 : decode cX8_compile 53 = .ok (.bipush 59, 2) := by decide +kernel
theorem dX8_compile_55 : decode cX8_compile 55 = .ok (.if_icmp .ne 17, 3) := by decide +kernel
theorem dX8_compile_58 : decode cX8_compile 58 = .ok (.aload_n 0, 1) := by decide +kernel
theorem dX8_compile_59 : decode cX8_compile 59 = .ok (.invokevirtual 53, 3) := by decide +kernel
theorem dX8_compile_62 : decode cX8_compile 62 = .ok (.aload_n 0, 1) := by decide +kernel
theorem dX8_compile_63 : decode cX8_compile 63 = .ok (.invokevirtual 50, 3) := by decide +kernel
theorem dX8_compile_66 : decode cX8_compile 66 = .ok (.iinc 1 1, 3) := by decide +kernel
theorem dX8_compile_69 : decode cX8_compile 69 = .ok (.goto (-34), 3) := by decide +kernel
theorem dX8_compile_72 : decode cX8_compile 72 = .ok (.aload_n 0, 1) := by decide +kernel
theorem dX8_compile_73 : decode cX8_compile 73 = .ok (.getfield 47, 3) := by decide +kernel
theorem dX8_compile_76 : decode cX8_compile 76 = .ok (.ifCond .eq 7, 3) := by decide +kernel
theorem dX8_compile_79 : decode cX8_compile 79 = .ok (.aload_n 0, 1) := by decide +kernel
theorem dX8_compile_80 : decode cX8_compile 80 = .ok (.invokevirtual 56, 3) := by decide +kernel
theorem dX8_compile_83 : decode cX8_compile 83 = .ok (.aload_n 0, 1) := by decide +kernel
theorem dX8_compile_84 : decode cX8_compile 84 = .ok (.getfield 41, 3) := by decide +kernel
theorem dX8_compile_87 : decode cX8_compile 87 = .ok (.ireturn, 1) := by decide +kernel
theorem dX8_blame_0 : decode cX8_blame 0 = .ok (.aload_n 0, 1) := by decide +kernel
theorem dX8_blame_1 : decode cX8_blame 1 = .ok (.getfield 41, 3) := by decide +kernel
theorem dX8_blame_4 : decode cX8_blame 4 = .ok (.ifCond .ge 16, 3) := by decide +kernel
theorem dX8_blame_7 : decode cX8_blame 7 = .ok (.aload_n 0, 1) := by decide +kernel
theorem dX8_blame_8 : decode cX8_blame 8 = .ok (.aload_n 0, 1) := by decide +kernel
theorem dX8_blame_9 : decode cX8_blame 9 = .ok (.getfield 16, 3) := by decide +kernel
theorem dX8_blame_12 : decode cX8_blame 12 = .ok (.aload_n 0, 1) := by decide +kernel
theorem dX8_blame_13 : decode cX8_blame 13 = .ok (.getfield 44, 3) := by decide +kernel
theorem dX8_blame_16 : decode cX8_blame 16 = .ok (.iaload, 1) := by decide +kernel
theorem dX8_blame_17 : decode cX8_blame 17 = .ok (.putfield 41, 3) := by decide +kernel
theorem dX8_blame_20 : decode cX8_blame 20 = .ok (.return_, 1) := by decide +kernel
theorem dX8_emit_0 : decode cX8_emit 0 = .ok (.aload_n 0, 1) := by decide +kernel
theorem dX8_emit_1 : decode cX8_emit 1 = .ok (.getfield 29, 3) := by decide +kernel
theorem dX8_emit_4 : decode cX8_emit 4 = .ok (.sipush 161, 3) := by decide +kernel
theorem dX8_emit_7 : decode cX8_emit 7 = .ok (.if_icmp .ge 23, 3) := by decide +kernel
theorem dX8_emit_10 : decode cX8_emit 10 = .ok (.aload_n 0, 1) := by decide +kernel
theorem dX8_emit_11 : decode cX8_emit 11 = .ok (.getfield 22, 3) := by decide +kernel
theorem dX8_emit_14 : decode cX8_emit 14 = .ok (.aload_n 0, 1) := by decide +kernel
theorem dX8_emit_15 : decode cX8_emit 15 = .ok (.getfield 29, 3) := by decide +kernel
theorem dX8_emit_18 : decode cX8_emit 18 = .ok (.iload_n 1, 1) := by decide +kernel
theorem dX8_emit_19 : decode cX8_emit 19 = .ok (.iastore, 1) := by decide +kernel
theorem dX8_emit_20 : decode cX8_emit 20 = .ok (.aload_n 0, 1) := by decide +kernel
theorem dX8_emit_21 : decode cX8_emit 21 = .ok (.dup, 1) := by decide +kernel
theorem dX8_emit_22 : decode cX8_emit 22 = .ok (.getfield 29, 3) := by decide +kernel
theorem dX8_emit_25 : decode cX8_emit 25 = .ok (.iconst 1, 1) := by decide +kernel
theorem dX8_emit_26 : decode cX8_emit 26 = .ok (.iadd, 1) := by decide +kernel
theorem dX8_emit_27 : decode cX8_emit 27 = .ok (.putfield 29, 3) := by decide +kernel
theorem dX8_emit_30 : decode cX8_emit 30 = .ok (.return_, 1) := by decide +kernel
theorem dX8_readLine_0 : decode cX8_readLine 0 = .ok (.aload_n 0, 1) := by decide +kernel
theorem dX8_readLine_1 : decode cX8_readLine 1 = .ok (.getfield 47, 3) := by decide +kernel
theorem dX8_readLine_4 : decode cX8_readLine 4 = .ok (.sipush 314, 3) := by decide +kernel
theorem dX8_readLine_7 : decode cX8_readLine 7 = .ok (.if_icmp .ne 8, 3) := by decide +kernel
theorem dX8_readLine_10 : decode cX8_readLine 10 = .ok (.bipush (-33), 2) := by decide +kernel
theorem dX8_readLine_12 : decode cX8_readLine 12 = .ok (.goto 19, 3) := by decide +kernel
theorem dX8_readLine_15 : decode cX8_readLine 15 = .ok (.aload_n 0, 1) := by decide +kernel
theorem dX8_readLine_16 : decode cX8_readLine 16 = .ok (.getfield 47, 3) := by decide +kernel
theorem dX8_readLine_19 : decode cX8_readLine 19 = .ok (.sipush 315, 3) := by decide +kernel
theorem dX8_readLine_22 : decode cX8_readLine 22 = .ok (.if_icmp .ne 8, 3) := by decide +kernel
theorem dX8_readLine_25 : decode cX8_readLine 25 = .ok (.bipush (-34), 2) := by decide +kernel
theorem dX8_readLine_27 : decode cX8_readLine 27 = .ok (.goto 4, 3) := by decide +kernel
theorem dX8_readLine_30 : decode cX8_readLine 30 = .ok (.iconst 0, 1) := by decide +kernel
theorem dX8_readLine_31 : decode cX8_readLine 31 = .ok (.istore_n 1, 1) := by decide +kernel
theorem dX8_readLine_32 : decode cX8_readLine 32 = .ok (.iload_n 1, 1) := by decide +kernel
theorem dX8_readLine_33 : decode cX8_readLine 33 = .ok (.ifCond .eq 23, 3) := by decide +kernel
theorem dX8_readLine_36 : decode cX8_readLine 36 = .ok (.aload_n 0, 1) := by decide +kernel
theorem dX8_readLine_37 : decode cX8_readLine 37 = .ok (.invokevirtual 53, 3) := by decide +kernel
theorem dX8_readLine_40 : decode cX8_readLine 40 = .ok (.aload_n 0, 1) := by decide +kernel
theorem dX8_readLine_41 : decode cX8_readLine 41 = .ok (.iconst 0, 1) := by decide +kernel
theorem dX8_readLine_42 : decode cX8_readLine 42 = .ok (.invokevirtual 59, 3) := by decide +kernel
theorem dX8_readLine_45 : decode cX8_readLine 45 = .ok (.aload_n 0, 1) := by decide +kernel
theorem dX8_readLine_46 : decode cX8_readLine 46 = .ok (.iload_n 1, 1) := by decide +kernel
theorem dX8_readLine_47 : decode cX8_readLine 47 = .ok (.invokevirtual 63, 3) := by decide +kernel
theorem dX8_readLine_50 : decode cX8_readLine 50 = .ok (.aload_n 0, 1) := by decide +kernel
theorem dX8_readLine_51 : decode cX8_readLine 51 = .ok (.bipush 58, 2) := by decide +kernel
theorem dX8_readLine_53 : decode cX8_readLine 53 = .ok (.invokevirtual 66, 3) := by decide +kernel
theorem dX8_readLine_56 : decode cX8_readLine 56 = .ok (.aload_n 0, 1) := by decide +kernel
theorem dX8_readLine_57 : decode cX8_readLine 57 = .ok (.iconst 0, 1) := by decide +kernel
theorem dX8_readLine_58 : decode cX8_readLine 58 = .ok (.invokevirtual 59, 3) := by decide +kernel
theorem dX8_readLine_61 : decode cX8_readLine 61 = .ok (.aload_n 0, 1) := by decide +kernel
theorem dX8_readLine_62 : decode cX8_readLine 62 = .ok (.bipush (-35), 2) := by decide +kernel
theorem dX8_readLine_64 : decode cX8_readLine 64 = .ok (.invokevirtual 63, 3) := by decide +kernel
theorem dX8_readLine_67 : decode cX8_readLine 67 = .ok (.return_, 1) := by decide +kernel
theorem dX8_expect_0 : decode cX8_expect 0 = .ok (.aload_n 0, 1) := by decide +kernel
theorem dX8_expect_1 : decode cX8_expect 1 = .ok (.getfield 47, 3) := by decide +kernel
theorem dX8_expect_4 : decode cX8_expect 4 = .ok (.iload_n 1, 1) := by decide +kernel
theorem dX8_expect_5 : decode cX8_expect 5 = .ok (.if_icmp .ne 17, 3) := by decide +kernel
theorem dX8_expect_8 : decode cX8_expect 8 = .ok (.aload_n 0, 1) := by decide +kernel
theorem dX8_expect_9 : decode cX8_expect 9 = .ok (.getfield 41, 3) := by decide +kernel
theorem dX8_expect_12 : decode cX8_expect 12 = .ok (.ifCond .ge 10, 3) := by decide +kernel
