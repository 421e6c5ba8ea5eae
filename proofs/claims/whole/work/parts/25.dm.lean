theorem dX9_init_0 : decode cX9_init 0 = .ok (.aload_n 0, 1) := by decide +kernel
theorem dX9_init_1 : decode cX9_init 1 = .ok (.invokespecial 1, 3) := by decide +kernel
theorem dX9_init_4 : decode cX9_init 4 = .ok (.aload_n 0, 1) := by decide +kernel
theorem dX9_init_5 : decode cX9_init 5 = .ok (.bipush 48, 2) := by decide +kernel
theorem dX9_init_7 : decode cX9_init 7 = .ok (.newarray .int, 2) := by decide +kernel
theorem dX9_init_9 : decode cX9_init 9 = .ok (.putfield 7, 3) := by decide +kernel
theorem dX9_init_12 : decode cX9_init 12 = .ok (.aload_n 0, 1) := by decide +kernel
theorem dX9_init_13 : decode cX9_init 13 = .ok (.bipush 12, 2) := by decide +kernel
theorem dX9_init_15 : decode cX9_init 15 = .ok (.newarray .int, 2) := by decide +kernel
theorem dX9_init_17 : decode cX9_init 17 = .ok (.putfield 13, 3) := by decide +kernel
theorem dX9_init_20 : decode cX9_init 20 = .ok (.aload_n 0, 1) := by decide +kernel
theorem dX9_init_21 : decode cX9_init 21 = .ok (.bipush 12, 2) := by decide +kernel
theorem dX9_init_23 : decode cX9_init 23 = .ok (.newarray .int, 2) := by decide +kernel
theorem dX9_init_25 : decode cX9_init 25 = .ok (.putfield 16, 3) := by decide +kernel
theorem dX9_init_28 : decode cX9_init 28 = .ok (.aload_n 0, 1) := by decide +kernel
theorem dX9_init_29 : decode cX9_init 29 = .ok (.bipush 40, 2) := by decide +kernel
theorem dX9_init_31 : decode cX9_init 31 = .ok (.newarray .int, 2) := by decide +kernel
theorem dX9_init_33 : decode cX9_init 33 = .ok (.putfield 19, 3) := by decide +kernel
theorem dX9_init_36 : decode cX9_init 36 = .ok (.aload_n 0, 1) := by decide +kernel
theorem dX9_init_37 : decode cX9_init 37 = .ok (.bipush 40, 2) := by decide +kernel
theorem dX9_init_39 : decode cX9_init 39 = .ok (.newarray .int, 2) := by decide +kernel
theorem dX9_init_41 : decode cX9_init 41 = .ok (.putfield 22, 3) := by decide +kernel
theorem dX9_init_44 : decode cX9_init 44 = .ok (.aload_n 0, 1) := by decide +kernel
theorem dX9_init_45 : decode cX9_init 45 = .ok (.bipush 40, 2) := by decide +kernel
theorem dX9_init_47 : decode cX9_init 47 = .ok (.newarray .int, 2) := by decide +kernel
theorem dX9_init_49 : decode cX9_init 49 = .ok (.putfield 25, 3) := by decide +kernel
theorem dX9_init_52 : decode cX9_init 52 = .ok (.aload_n 0, 1) := by decide +kernel
theorem dX9_init_53 : decode cX9_init 53 = .ok (.bipush 40, 2) := by decide +kernel
theorem dX9_init_55 : decode cX9_init 55 = .ok (.newarray .int, 2) := by decide +kernel
theorem dX9_init_57 : decode cX9_init 57 = .ok (.putfield 28, 3) := by decide +kernel
theorem dX9_init_60 : decode cX9_init 60 = .ok (.aload_n 0, 1) := by decide +kernel
theorem dX9_init_61 : decode cX9_init 61 = .ok (.bipush 16, 2) := by decide +kernel
theorem dX9_init_63 : decode cX9_init 63 = .ok (.newarray .int, 2) := by decide +kernel
theorem dX9_init_65 : decode cX9_init 65 = .ok (.putfield 31, 3) := by decide +kernel
theorem dX9_init_68 : decode cX9_init 68 = .ok (.aload_n 0, 1) := by decide +kernel
theorem dX9_init_69 : decode cX9_init 69 = .ok (.bipush 48, 2) := by decide +kernel
theorem dX9_init_71 : decode cX9_init 71 = .ok (.newarray .int, 2) := by decide +kernel
theorem dX9_init_73 : decode cX9_init 73 = .ok (.putfield 34, 3) := by decide +kernel
theorem dX9_init_76 : decode cX9_init 76 = .ok (.aload_n 0, 1) := by decide +kernel
theorem dX9_init_77 : decode cX9_init 77 = .ok (.bipush 16, 2) := by decide +kernel
theorem dX9_init_79 : decode cX9_init 79 = .ok (.newarray .int, 2) := by decide +kernel
theorem dX9_init_81 : decode cX9_init 81 = .ok (.putfield 37, 3) := by decide +kernel
theorem dX9_init_84 : decode cX9_init 84 = .ok (.aload_n 0, 1) := by decide +kernel
theorem dX9_init_85 : decode cX9_init 85 = .ok (.bipush 8, 2) := by decide +kernel
theorem dX9_init_87 : decode cX9_init 87 = .ok (.newarray .int, 2) := by decide +kernel
theorem dX9_init_89 : decode cX9_init 89 = .ok (.putfield 40, 3) := by decide +kernel
theorem dX9_init_92 : decode cX9_init 92 = .ok (.aload_n 0, 1) := by decide +kernel
theorem dX9_init_93 : decode cX9_init 93 = .ok (.bipush 8, 2) := by decide +kernel
theorem dX9_init_95 : decode cX9_init 95 = .ok (.newarray .int, 2) := by decide +kernel
theorem dX9_init_97 : decode cX9_init 97 = .ok (.putfield 43, 3) := by decide +kernel
theorem dX9_init_100 : decode cX9_init 100 = .ok (.aload_n 0, 1) := by decide +kernel
theorem dX9_init_101 : decode cX9_init 101 = .ok (.bipush 8, 2) := by decide +kernel
theorem dX9_init_103 : decode cX9_init 103 = .ok (.newarray .int, 2) := by decide +kernel
theorem dX9_init_105 : decode cX9_init 105 = .ok (.putfield 46, 3) := by decide +kernel
theorem dX9_init_108 : decode cX9_init 108 = .ok (.aload_n 0, 1) := by decide +kernel
theorem dX9_init_109 : decode cX9_init 109 = .ok (.bipush 8, 2) := by decide +kernel
theorem dX9_init_111 : decode cX9_init 111 = .ok (.newarray .int, 2) := by decide +kernel
theorem dX9_init_113 : decode cX9_init 113 = .ok (.putfield 49, 3) := by decide +kernel
theorem dX9_init_116 : decode cX9_init 116 = .ok (.aload_n 0, 1) := by decide +kernel
theorem dX9_init_117 : decode cX9_init 117 = .ok (.bipush 8, 2) := by decide +kernel
theorem dX9_init_119 : decode cX9_init 119 = .ok (.newarray .int, 2) := by decide +kernel
theorem dX9_init_121 : decode cX9_init 121 = .ok (.putfield 52, 3) := by decide +kernel
theorem dX9_init_124 : decode cX9_init 124 = .ok (.aload_n 0, 1) := by decide +kernel
theorem dX9_init_125 : decode cX9_init 125 = .ok (.sipush 201, 3) := by decide +kernel
theorem dX9_init_128 : decode cX9_init 128 = .ok (.newarray .int, 2) := by decide +kernel
theorem dX9_init_130 : decode cX9_init 130 = .ok (.putfield 55, 3) := by decide +kernel
theorem dX9_init_133 : decode cX9_init 133 = .ok (.aload_n 0, 1) := by decide +kernel
theorem dX9_init_134 : decode cX9_init 134 = .ok (.sipush 201, 3) := by decide +kernel
theorem dX9_init_137 : decode cX9_init 137 = .ok (.newarray .boolean, 2) := by decide +kernel
theorem dX9_init_139 : decode cX9_init 139 = .ok (.putfield 58, 3) := by decide +kernel
theorem dX9_init_142 : decode cX9_init 142 = .ok (.aload_n 0, 1) := by decide +kernel
theorem dX9_init_143 : decode cX9_init 143 = .ok (.sipush 201, 3) := by decide +kernel
theorem dX9_init_146 : decode cX9_init 146 = .ok (.newarray .int, 2) := by decide +kernel
theorem dX9_init_148 : decode cX9_init 148 = .ok (.putfield 62, 3) := by decide +kernel
theorem dX9_init_151 : decode cX9_init 151 = .ok (.aload_n 0, 1) := by decide +kernel
theorem dX9_init_152 : decode cX9_init 152 = .ok (.sipush 201, 3) := by decide +kernel
theorem dX9_init_155 : decode cX9_init 155 = .ok (.newarray .int, 2) := by decide +kernel
theorem dX9_init_157 : decode cX9_init 157 = .ok (.putfield 65, 3) := by decide +kernel
theorem dX9_init_160 : decode cX9_init 160 = .ok (.aload_n 0, 1) := by decide +kernel
theorem dX9_init_161 : decode cX9_init 161 = .ok (.sipush 201, 3) := by decide +kernel
theorem dX9_init_164 : decode cX9_init 164 = .ok (.newarray .int, 2) := by decide +kernel
theorem dX9_init_166 : decode cX9_init 166 = .ok (.putfield 68, 3) := by decide +kernel
theorem dX9_init_169 : decode cX9_init 169 = .ok (.aload_n 0, 1) := by decide +kernel
theorem dX9_init_170 : decode cX9_init 170 = .ok (.sipush 201, 3) := by decide +kernel
theorem dX9_init_173 : decode cX9_init 173 = .ok (.newarray .int, 2) := by decide +kernel
theorem dX9_init_175 : decode cX9_init 175 = .ok (.putfield 71, 3) := by decide +kernel
theorem dX9_init_178 : decode cX9_init 178 = .ok (.aload_n 0, 1) := by decide +kernel
theorem dX9_init_179 : decode cX9_init 179 = .ok (.sipush 201, 3) := by decide +kernel
theorem dX9_init_182 : decode cX9_init 182 = .ok (.newarray .int, 2) := by decide +kernel
theorem dX9_init_184 : decode cX9_init 184 = .ok (.putfield 74, 3) := by decide +kernel
theorem dX9_init_187 : decode cX9_init 187 = .ok (.aload_n 0, 1) := by decide +kernel
theorem dX9_init_188 : decode cX9_init 188 = .ok (.sipush 201, 3) := by decide +kernel
theorem dX9_init_191 : decode cX9_init 191 = .ok (.newarray .int, 2) := by decide +kernel
theorem dX9_init_193 : decode cX9_init 193 = .ok (.putfield 77, 3) := by decide +kernel
theorem dX9_init_196 : decode cX9_init 196 = .ok (.aload_n 0, 1) := by decide +kernel
theorem dX9_init_197 : decode cX9_init 197 = .ok (.bipush 40, 2) := by decide +kernel
theorem dX9_init_199 : decode cX9_init 199 = .ok (.newarray .int, 2) := by decide +kernel
theorem dX9_init_201 : decode cX9_init 201 = .ok (.putfield 80, 3) := by decide +kernel
theorem dX9_init_204 : decode cX9_init 204 = .ok (.aload_n 0, 1) := by decide +kernel
theorem dX9_init_205 : decode cX9_init 205 = .ok (.bipush 40, 2) := by decide +kernel
theorem dX9_init_207 : decode cX9_init 207 = .ok (.newarray .int, 2) := by decide +kernel
theorem dX9_init_209 : decode cX9_init 209 = .ok (.putfield 83, 3) := by decide +kernel
theorem dX9_init_212 : decode cX9_init 212 = .ok (.aload_n 0, 1) := by decide +kernel
theorem dX9_init_213 : decode cX9_init 213 = .ok (.sipush 8040, 3) := by decide +kernel
theorem dX9_init_216 : decode cX9_init 216 = .ok (.newarray .int, 2) := by decide +kernel
theorem dX9_init_218 : decode cX9_init 218 = .ok (.putfield 86, 3) := by decide +kernel
theorem dX9_init_221 : decode cX9_init 221 = .ok (.aload_n 0, 1) := by decide +kernel
theorem dX9_init_222 : decode cX9_init 222 = .ok (.iconst 3, 1) := by decide +kernel
theorem dX9_init_223 : decode cX9_init 223 = .ok (.newarray .int, 2) := by decide +kernel
theorem dX9_init_225 : decode cX9_init 225 = .ok (.putfield 89, 3) := by decide +kernel
theorem dX9_init_228 : decode cX9_init 228 = .ok (.aload_n 0, 1) := by decide +kernel
theorem dX9_init_229 : decode cX9_init 229 = .ok (.sipush 640, 3) := by decide +kernel
theorem dX9_init_232 : decode cX9_init 232 = .ok (.newarray .int, 2) := by decide +kernel
theorem dX9_init_234 : decode cX9_init 234 = .ok (.putfield 92, 3) := by decide +kernel
theorem dX9_init_237 : decode cX9_init 237 = .ok (.iconst 0, 1) := by decide +kernel
theorem dX9_init_238 : decode cX9_init 238 = .ok (.istore_n 1, 1) := by decide +kernel
theorem dX9_init_239 : decode cX9_init 239 = .ok (.iload_n 1, 1) := by decide +kernel
theorem dX9_init_240 : decode cX9_init 240 = .ok (.bipush 48, 2) := by decide +kernel
theorem dX9_init_242 : decode cX9_init 242 = .ok (.if_icmp .ge 16, 3) := by decide +kernel
theorem dX9_init_245 : decode cX9_init 245 = .ok (.aload_n 0, 1) := by decide +kernel
theorem dX9_init_246 : decode cX9_init 246 = .ok (.getfield 7, 3) := by decide +kernel
theorem dX9_init_249 : decode cX9_init 249 = .ok (.iload_n 1, 1) := by decide +kernel
theorem dX9_init_250 : decode cX9_init 250 = .ok (.iconst (-1), 1) := by decide +kernel
theorem dX9_init_251 : decode cX9_init 251 = .ok (.iastore, 1) := by decide +kernel
theorem dX9_init_252 : decode cX9_init 252 = .ok (.iinc 1 1, 3) := by decide +kernel
theorem dX9_init_255 : decode cX9_init 255 = .ok (.goto (-16), 3) := by decide +kernel
theorem dX9_init_258 : decode cX9_init 258 = .ok (.iconst 0, 1) := by decide +kernel
theorem dX9_init_259 : decode cX9_init 259 = .ok (.istore_n 1, 1) := by decide +kernel
theorem dX9_init_260 : decode cX9_init 260 = .ok (.iload_n 1, 1) := by decide +kernel
theorem dX9_init_261 : decode cX9_init 261 = .ok (.bipush 40, 2) := by decide +kernel
theorem dX9_init_263 : decode cX9_init 263 = .ok (.if_icmp .ge 16, 3) := by decide +kernel
theorem dX9_init_266 : decode cX9_init 266 = .ok (.aload_n 0, 1) := by decide +kernel
theorem dX9_init_267 : decode cX9_init 267 = .ok (.getfield 19, 3) := by decide +kernel
theorem dX9_init_270 : decode cX9_init 270 = .ok (.iload_n 1, 1) := by decide +kernel
theorem dX9_init_271 : decode cX9_init 271 = .ok (.iconst (-1), 1) := by decide +kernel
theorem dX9_init_272 : decode cX9_init 272 = .ok (.iastore, 1) := by decide +kernel
theorem dX9_init_273 : decode cX9_init 273 = .ok (.iinc 1 1, 3) := by decide +kernel
theorem dX9_init_276 : decode cX9_init 276 = .ok (.goto (-16), 3) := by decide +kernel
theorem dX9_init_279 : decode cX9_init 279 = .ok (.iconst 0, 1) := by decide +kernel
theorem dX9_init_280 : decode cX9_init 280 = .ok (.istore_n 1, 1) := by decide +kernel
theorem dX9_init_281 : decode cX9_init 281 = .ok (.iload_n 1, 1) := by decide +kernel
theorem dX9_init_282 : decode cX9_init 282 = .ok (.bipush 16, 2) := by decide +kernel
theorem dX9_init_284 : decode cX9_init 284 = .ok (.if_icmp .ge 16, 3) := by decide +kernel
theorem dX9_init_287 : decode cX9_init 287 = .ok (.aload_n 0, 1) := by decide +kernel
theorem dX9_init_288 : decode cX9_init 288 = .ok (.getfield 31, 3) := by decide +kernel
theorem dX9_init_291 : decode cX9_init 291 = .ok (.iload_n 1, 1) := by decide +kernel
theorem dX9_init_292 : decode cX9_init 292 = .ok (.iconst (-1), 1) := by decide +kernel
theorem dX9_init_293 : decode cX9_init 293 = .ok (.iastore, 1) := by decide +kernel
theorem dX9_init_294 : decode cX9_init 294 = .ok (.iinc 1 1, 3) := by decide +kernel
theorem dX9_init_297 : decode cX9_init 297 = .ok (.goto (-16), 3) := by decide +kernel
theorem dX9_init_300 : decode cX9_init 300 = .ok (.iconst 0, 1) := by decide +kernel
theorem dX9_init_301 : decode cX9_init 301 = .ok (.istore_n 1, 1) := by decide +kernel
theorem dX9_init_302 : decode cX9_init 302 = .ok (.iload_n 1, 1) := by decide +kernel
theorem dX9_init_303 : decode cX9_init 303 = .ok (.bipush 8, 2) := by decide +kernel
theorem dX9_init_305 : decode cX9_init 305 = .ok (.if_icmp .ge 16, 3) := by decide +kernel
theorem dX9_init_308 : decode cX9_init 308 = .ok (.aload_n 0, 1) := by decide +kernel
theorem dX9_init_309 : decode cX9_init 309 = .ok (.getfield 40, 3) := by decide +kernel
theorem dX9_init_312 : decode cX9_init 312 = .ok (.iload_n 1, 1) := by decide +kernel
theorem dX9_init_313 : decode cX9_init 313 = .ok (.iconst (-1), 1) := by decide +kernel
theorem dX9_init_314 : decode cX9_init 314 = .ok (.iastore, 1) := by decide +kernel
theorem dX9_init_315 : decode cX9_init 315 = .ok (.iinc 1 1, 3) := by decide +kernel
theorem dX9_init_318 : decode cX9_init 318 = .ok (.goto (-16), 3) := by decide +kernel
theorem dX9_init_321 : decode cX9_init 321 = .ok (.return_, 1) := by decide +kernel
theorem dX9_thrown_0 : decode cX9_thrown 0 = .ok (.aload_n 0, 1) := by decide +kernel
theorem dX9_thrown_1 : decode cX9_thrown 1 = .ok (.getfield 95, 3) := by decide +kernel
theorem dX9_thrown_4 : decode cX9_thrown 4 = .ok (.ireturn, 1) := by decide +kernel
theorem dX9_within_0 : decode cX9_within 0 = .ok (.iload_n 0, 1) := by decide +kernel
theorem dX9_within_1 : decode cX9_within 1 = .ok (.iload_n 1, 1) := by decide +kernel
theorem dX9_within_2 : decode cX9_within 2 = .ok (.if_icmp .lt 12, 3) := by decide +kernel
theorem dX9_within_5 : decode cX9_within 5 = .ok (.iload_n 0, 1) := by decide +kernel
theorem dX9_within_6 : decode cX9_within 6 = .ok (.iload_n 2, 1) := by decide +kernel
theorem dX9_within_7 : decode cX9_within 7 = .ok (.if_icmp .gt 7, 3) := by decide +kernel
theorem dX9_within_10 : decode cX9_within 10 = .ok (.iconst 1, 1) := by decide +kernel
theorem dX9_within_11 : decode cX9_within 11 = .ok (.goto 4, 3) := by decide +kernel
theorem dX9_within_14 : decode cX9_within 14 = .ok (.iconst 0, 1) := by decide +kernel
theorem dX9_within_15 : decode cX9_within 15 = .ok (.ireturn, 1) := by decide +kernel
theorem dX9_isThing_0 : decode cX9_isThing 0 = .ok (.iload_n 1, 1) := by decide +kernel
theorem dX9_isThing_1 : decode cX9_isThing 1 = .ok (.iconst 0, 1) := by decide +kernel
theorem dX9_isThing_2 : decode cX9_isThing 2 = .ok (.bipush 39, 2) := by decide +kernel
theorem dX9_isThing_4 : decode cX9_isThing 4 = .ok (.invokestatic 99, 3) := by decide +kernel
theorem dX9_isThing_7 : decode cX9_isThing 7 = .ok (.ifCond .eq 17, 3) := by decide +kernel
theorem dX9_isThing_10 : decode cX9_isThing 10 = .ok (.aload_n 0, 1) := by decide +kernel
theorem dX9_isThing_11 : decode cX9_isThing 11 = .ok (.getfield 19, 3) := by decide +kernel
theorem dX9_isThing_14 : decode cX9_isThing 14 = .ok (.iload_n 1, 1) := by decide +kernel
theorem dX9_isThing_15 : decode cX9_isThing 15 = .ok (.iaload, 1) := by decide +kernel
theorem dX9_isThing_16 : decode cX9_isThing 16 = .ok (.iconst (-1), 1) := by decide +kernel
theorem dX9_isThing_17 : decode cX9_isThing 17 = .ok (.if_icmp .eq 7, 3) := by decide +kernel
theorem dX9_isThing_20 : decode cX9_isThing 20 = .ok (.iconst 1, 1) := by decide +kernel
theorem dX9_isThing_21 : decode cX9_isThing 21 = .ok (.goto 4, 3) := by decide +kernel
theorem dX9_isThing_24 : decode cX9_isThing 24 = .ok (.iconst 0, 1) := by decide +kernel
theorem dX9_isThing_25 : decode cX9_isThing 25 = .ok (.ireturn, 1) := by decide +kernel
theorem dX9_isTask_0 : decode cX9_isTask 0 = .ok (.iload_n 1, 1) := by decide +kernel
theorem dX9_isTask_1 : decode cX9_isTask 1 = .ok (.iconst 0, 1) := by decide +kernel
theorem dX9_isTask_2 : decode cX9_isTask 2 = .ok (.bipush 15, 2) := by decide +kernel
theorem dX9_isTask_4 : decode cX9_isTask 4 = .ok (.invokestatic 99, 3) := by decide +kernel
theorem dX9_isTask_7 : decode cX9_isTask 7 = .ok (.ifCond .eq 17, 3) := by decide +kernel
theorem dX9_isTask_10 : decode cX9_isTask 10 = .ok (.aload_n 0, 1) := by decide +kernel
theorem dX9_isTask_11 : decode cX9_isTask 11 = .ok (.getfield 31, 3) := by decide +kernel
theorem dX9_isTask_14 : decode cX9_isTask 14 = .ok (.iload_n 1, 1) := by decide +kernel
theorem dX9_isTask_15 : decode cX9_isTask 15 = .ok (.iaload, 1) := by decide +kernel
theorem dX9_isTask_16 : decode cX9_isTask 16 = .ok (.iconst (-1), 1) := by decide +kernel
theorem dX9_isTask_17 : decode cX9_isTask 17 = .ok (.if_icmp .eq 7, 3) := by decide +kernel
theorem dX9_isTask_20 : decode cX9_isTask 20 = .ok (.iconst 1, 1) := by decide +kernel
theorem dX9_isTask_21 : decode cX9_isTask 21 = .ok (.goto 4, 3) := by decide +kernel
theorem dX9_isTask_24 : decode cX9_isTask 24 = .ok (.iconst 0, 1) := by decide +kernel
theorem dX9_isTask_25 : decode cX9_isTask 25 = .ok (.ireturn, 1) := by decide +kernel
theorem dX9_isPoint_0 : decode cX9_isPoint 0 = .ok (.iload_n 0, 1) := by decide +kernel
theorem dX9_isPoint_1 : decode cX9_isPoint 1 = .ok (.iconst 0, 1) := by decide +kernel
theorem dX9_isPoint_2 : decode cX9_isPoint 2 = .ok (.ldc 103, 2) := by decide +kernel
theorem dX9_isPoint_4 : decode cX9_isPoint 4 = .ok (.invokestatic 99, 3) := by decide +kernel
theorem dX9_isPoint_7 : decode cX9_isPoint 7 = .ok (.ireturn, 1) := by decide +kernel
theorem dX9_isDay_0 : decode cX9_isDay 0 = .ok (.iload_n 0, 1) := by decide +kernel
theorem dX9_isDay_1 : decode cX9_isDay 1 = .ok (.iconst 0, 1) := by decide +kernel
theorem dX9_isDay_2 : decode cX9_isDay 2 = .ok (.sipush 30000, 3) := by decide +kernel
theorem dX9_isDay_5 : decode cX9_isDay 5 = .ok (.invokestatic 99, 3) := by decide +kernel
theorem dX9_isDay_8 : decode cX9_isDay 8 = .ok (.ireturn, 1) := by decide +kernel
theorem dX9_isMachineKind_0 : decode cX9_isMachineKind 0 = .ok (.iconst 0, 1) := by decide +kernel
theorem dX9_isMachineKind_1 : decode cX9_isMachineKind 1 = .ok (.istore_n 2, 1) := by decide +kernel
theorem dX9_isMachineKind_2 : decode cX9_isMachineKind 2 = .ok (.iload_n 2, 1) := by decide +kernel
theorem dX9_isMachineKind_3 : decode cX9_isMachineKind 3 = .ok (.bipush 48, 2) := by decide +kernel
theorem dX9_isMachineKind_5 : decode cX9_isMachineKind 5 = .ok (.if_icmp .ge 21, 3) := by decide +kernel
theorem dX9_isMachineKind_8 : decode cX9_isMachineKind 8 = .ok (.aload_n 0, 1) := by decide +kernel
theorem dX9_isMachineKind_9 : decode cX9_isMachineKind 9 = .ok (.getfield 7, 3) := by decide +kernel
theorem dX9_isMachineKind_12 : decode cX9_isMachineKind 12 = .ok (.iload_n 2, 1) := by decide +kernel
theorem dX9_isMachineKind_13 : decode cX9_isMachineKind 13 = .ok (.iaload, 1) := by decide +kernel
theorem dX9_isMachineKind_14 : decode cX9_isMachineKind 14 = .ok (.iload_n 1, 1) := by decide +kernel
theorem dX9_isMachineKind_15 : decode cX9_isMachineKind 15 = .ok (.if_icmp .ne 5, 3) := by decide +kernel
theorem dX9_isMachineKind_18 : decode cX9_isMachineKind 18 = .ok (.iconst 0, 1) := by decide +kernel
theorem dX9_isMachineKind_19 : decode cX9_isMachineKind 19 = .ok (.ireturn, 1) := by decide +kernel
theorem dX9_isMachineKind_20 : decode cX9_isMachineKind 20 = .ok (.iinc 2 1, 3) := by decide +kernel
theorem dX9_isMachineKind_23 : decode cX9_isMachineKind 23 = .ok (.goto (-21), 3) := by decide +kernel
theorem dX9_isMachineKind_26 : decode cX9_isMachineKind 26 = .ok (.iconst 1, 1) := by decide +kernel
theorem dX9_isMachineKind_27 : decode cX9_isMachineKind 27 = .ok (.ireturn, 1) := by decide +kernel
theorem dX9_isMachine_0 : decode cX9_isMachine 0 = .ok (.aload_n 0, 1) := by decide +kernel
theorem dX9_isMachine_1 : decode cX9_isMachine 1 = .ok (.iload_n 1, 1) := by decide +kernel
theorem dX9_isMachine_2 : decode cX9_isMachine 2 = .ok (.invokevirtual 104, 3) := by decide +kernel
theorem dX9_isMachine_5 : decode cX9_isMachine 5 = .ok (.ifCond .eq 20, 3) := by decide +kernel
theorem dX9_isMachine_8 : decode cX9_isMachine 8 = .ok (.aload_n 0, 1) := by decide +kernel
theorem dX9_isMachine_9 : decode cX9_isMachine 9 = .ok (.aload_n 0, 1) := by decide +kernel
theorem dX9_isMachine_10 : decode cX9_isMachine 10 = .ok (.getfield 19, 3) := by decide +kernel
theorem dX9_isMachine_13 : decode cX9_isMachine 13 = .ok (.iload_n 1, 1) := by decide +kernel
theorem dX9_isMachine_14 : decode cX9_isMachine 14 = .ok (.iaload, 1) := by decide +kernel
theorem dX9_isMachine_15 : decode cX9_isMachine 15 = .ok (.invokevirtual 108, 3) := by decide +kernel
theorem dX9_isMachine_18 : decode cX9_isMachine 18 = .ok (.ifCond .eq 7, 3) := by decide +kernel
theorem dX9_isMachine_21 : decode cX9_isMachine 21 = .ok (.iconst 1, 1) := by decide +kernel
theorem dX9_isMachine_22 : decode cX9_isMachine 22 = .ok (.goto 4, 3) := by decide +kernel
theorem dX9_isMachine_25 : decode cX9_isMachine 25 = .ok (.iconst 0, 1) := by decide +kernel
theorem dX9_isMachine_26 : decode cX9_isMachine 26 = .ok (.ireturn, 1) := by decide +kernel
theorem dX9_place_0 : decode cX9_place 0 = .ok (.aload_n 0, 1) := by decide +kernel
theorem dX9_place_1 : decode cX9_place 1 = .ok (.iconst 0, 1) := by decide +kernel
theorem dX9_place_2 : decode cX9_place 2 = .ok (.putfield 95, 3) := by decide +kernel
theorem dX9_place_5 : decode cX9_place 5 = .ok (.iload_n 1, 1) := by decide +kernel
theorem dX9_place_6 : decode cX9_place 6 = .ok (.iconst 0, 1) := by decide +kernel
theorem dX9_place_7 : decode cX9_place 7 = .ok (.bipush 11, 2) := by decide +kernel
theorem dX9_place_9 : decode cX9_place 9 = .ok (.invokestatic 99, 3) := by decide +kernel
theorem dX9_place_12 : decode cX9_place 12 = .ok (.ifCond .eq 29, 3) := by decide +kernel
theorem dX9_place_15 : decode cX9_place 15 = .ok (.iload_n 2, 1) := by decide +kernel
theorem dX9_place_16 : decode cX9_place 16 = .ok (.iconst 0, 1) := by decide +kernel
theorem dX9_place_17 : decode cX9_place 17 = .ok (.iconst 3, 1) := by decide +kernel
theorem dX9_place_18 : decode cX9_place 18 = .ok (.invokestatic 99, 3) := by decide +kernel
theorem dX9_place_21 : decode cX9_place 21 = .ok (.ifCond .eq 20, 3) := by decide +kernel
theorem dX9_place_24 : decode cX9_place 24 = .ok (.iload_n 3, 1) := by decide +kernel
theorem dX9_place_25 : decode cX9_place 25 = .ok (.iconst (-1), 1) := by decide +kernel
theorem dX9_place_26 : decode cX9_place 26 = .ok (.bipush 11, 2) := by decide +kernel
theorem dX9_place_28 : decode cX9_place 28 = .ok (.invokestatic 99, 3) := by decide +kernel
theorem dX9_place_31 : decode cX9_place 31 = .ok (.ifCond .eq 10, 3) := by decide +kernel
theorem dX9_place_34 : decode cX9_place 34 = .ok (.aload_n 0, 1) := by decide +kernel
theorem dX9_place_35 : decode cX9_place 35 = .ok (.getfield 111, 3) := by decide +kernel
theorem dX9_place_38 : decode cX9_place 38 = .ok (.ifCond .le 5, 3) := by decide +kernel
theorem dX9_place_41 : decode cX9_place 41 = .ok (.iconst 0, 1) := by decide +kernel
theorem dX9_place_42 : decode cX9_place 42 = .ok (.ireturn, 1) := by decide +kernel
theorem dX9_place_43 : decode cX9_place 43 = .ok (.aload_n 0, 1) := by decide +kernel
theorem dX9_place_44 : decode cX9_place 44 = .ok (.getfield 7, 3) := by decide +kernel
theorem dX9_place_47 : decode cX9_place 47 = .ok (.iconst 4, 1) := by decide +kernel
theorem dX9_place_48 : decode cX9_place 48 = .ok (.iload_n 1, 1) := by decide +kernel
theorem dX9_place_49 : decode cX9_place 49 = .ok (.imul, 1) := by decide +kernel
theorem dX9_place_50 : decode cX9_place 50 = .ok (.iload_n 2, 1) := by decide +kernel
theorem dX9_place_51 : decode cX9_place 51 = .ok (.iadd, 1) := by decide +kernel
theorem dX9_place_52 : decode cX9_place 52 = .ok (.iload_n 3, 1) := by decide +kernel
theorem dX9_place_53 : decode cX9_place 53 = .ok (.iastore, 1) := by decide +kernel
theorem dX9_place_54 : decode cX9_place 54 = .ok (.iconst 1, 1) := by decide +kernel
theorem dX9_place_55 : decode cX9_place 55 = .ok (.ireturn, 1) := by decide +kernel
theorem dX9_thing_0 : decode cX9_thing 0 = .ok (.aload_n 0, 1) := by decide +kernel
theorem dX9_thing_1 : decode cX9_thing 1 = .ok (.iconst 0, 1) := by decide +kernel
theorem dX9_thing_2 : decode cX9_thing 2 = .ok (.putfield 95, 3) := by decide +kernel
theorem dX9_thing_5 : decode cX9_thing 5 = .ok (.iload_n 1, 1) := by decide +kernel
theorem dX9_thing_6 : decode cX9_thing 6 = .ok (.iconst 0, 1) := by decide +kernel
theorem dX9_thing_7 : decode cX9_thing 7 = .ok (.bipush 39, 2) := by decide +kernel
theorem dX9_thing_9 : decode cX9_thing 9 = .ok (.invokestatic 99, 3) := by decide +kernel
theorem dX9_thing_12 : decode cX9_thing 12 = .ok (.ifCond .eq 52, 3) := by decide +kernel
theorem dX9_thing_15 : decode cX9_thing 15 = .ok (.aload_n 0, 1) := by decide +kernel
theorem dX9_thing_16 : decode cX9_thing 16 = .ok (.getfield 19, 3) := by decide +kernel
theorem dX9_thing_19 : decode cX9_thing 19 = .ok (.iload_n 1, 1) := by decide +kernel
theorem dX9_thing_20 : decode cX9_thing 20 = .ok (.iaload, 1) := by decide +kernel
theorem dX9_thing_21 : decode cX9_thing 21 = .ok (.iconst (-1), 1) := by decide +kernel
theorem dX9_thing_22 : decode cX9_thing 22 = .ok (.if_icmp .ne 42, 3) := by decide +kernel
theorem dX9_thing_25 : decode cX9_thing 25 = .ok (.iload_n 2, 1) := by decide +kernel
theorem dX9_thing_26 : decode cX9_thing 26 = .ok (.iconst 0, 1) := by decide +kernel
theorem dX9_thing_27 : decode cX9_thing 27 = .ok (.bipush 11, 2) := by decide +kernel
theorem dX9_thing_29 : decode cX9_thing 29 = .ok (.invokestatic 99, 3) := by decide +kernel
theorem dX9_thing_32 : decode cX9_thing 32 = .ok (.ifCond .eq 32, 3) := by decide +kernel
theorem dX9_thing_35 : decode cX9_thing 35 = .ok (.iload_n 3, 1) := by decide +kernel
theorem dX9_thing_36 : decode cX9_thing 36 = .ok (.iconst 0, 1) := by decide +kernel
theorem dX9_thing_37 : decode cX9_thing 37 = .ok (.ldc 114, 2) := by decide +kernel
theorem dX9_thing_39 : decode cX9_thing 39 = .ok (.invokestatic 99, 3) := by decide +kernel
theorem dX9_thing_42 : decode cX9_thing 42 = .ok (.ifCond .eq 22, 3) := by decide +kernel
theorem dX9_thing_45 : decode cX9_thing 45 = .ok (.iload 4, 2) := by decide +kernel
theorem dX9_thing_47 : decode cX9_thing 47 = .ok (.iconst 0, 1) := by decide +kernel
theorem dX9_thing_48 : decode cX9_thing 48 = .ok (.ldc 114, 2) := by decide +kernel
theorem dX9_thing_50 : decode cX9_thing 50 = .ok (.invokestatic 99, 3) := by decide +kernel
theorem dX9_thing_53 : decode cX9_thing 53 = .ok (.ifCond .eq 11, 3) := by decide +kernel
theorem dX9_thing_56 : decode cX9_thing 56 = .ok (.iload 5, 2) := by decide +kernel
theorem dX9_thing_58 : decode cX9_thing 58 = .ok (.invokestatic 115, 3) := by decide +kernel
theorem dX9_thing_61 : decode cX9_thing 61 = .ok (.ifCond .ne 5, 3) := by decide +kernel
theorem dX9_thing_64 : decode cX9_thing 64 = .ok (.iconst 0, 1) := by decide +kernel
theorem dX9_thing_65 : decode cX9_thing 65 = .ok (.ireturn, 1) := by decide +kernel
theorem dX9_thing_66 : decode cX9_thing 66 = .ok (.aload_n 0, 1) := by decide +kernel
theorem dX9_thing_67 : decode cX9_thing 67 = .ok (.getfield 19, 3) := by decide +kernel
theorem dX9_thing_70 : decode cX9_thing 70 = .ok (.iload_n 1, 1) := by decide +kernel
theorem dX9_thing_71 : decode cX9_thing 71 = .ok (.iload_n 2, 1) := by decide +kernel
theorem dX9_thing_72 : decode cX9_thing 72 = .ok (.iastore, 1) := by decide +kernel
theorem dX9_thing_73 : decode cX9_thing 73 = .ok (.aload_n 0, 1) := by decide +kernel
theorem dX9_thing_74 : decode cX9_thing 74 = .ok (.getfield 22, 3) := by decide +kernel
theorem dX9_thing_77 : decode cX9_thing 77 = .ok (.iload_n 1, 1) := by decide +kernel
theorem dX9_thing_78 : decode cX9_thing 78 = .ok (.iload_n 3, 1) := by decide +kernel
theorem dX9_thing_79 : decode cX9_thing 79 = .ok (.iastore, 1) := by decide +kernel
theorem dX9_thing_80 : decode cX9_thing 80 = .ok (.aload_n 0, 1) := by decide +kernel
theorem dX9_thing_81 : decode cX9_thing 81 = .ok (.getfield 25, 3) := by decide +kernel
theorem dX9_thing_84 : decode cX9_thing 84 = .ok (.iload_n 1, 1) := by decide +kernel
theorem dX9_thing_85 : decode cX9_thing 85 = .ok (.iload 4, 2) := by decide +kernel
theorem dX9_thing_87 : decode cX9_thing 87 = .ok (.iastore, 1) := by decide +kernel
theorem dX9_thing_88 : decode cX9_thing 88 = .ok (.aload_n 0, 1) := by decide +kernel
theorem dX9_thing_89 : decode cX9_thing 89 = .ok (.getfield 28, 3) := by decide +kernel
theorem dX9_thing_92 : decode cX9_thing 92 = .ok (.iload_n 1, 1) := by decide +kernel
theorem dX9_thing_93 : decode cX9_thing 93 = .ok (.iload 5, 2) := by decide +kernel
theorem dX9_thing_95 : decode cX9_thing 95 = .ok (.iastore, 1) := by decide +kernel
theorem dX9_thing_96 : decode cX9_thing 96 = .ok (.aload_n 0, 1) := by decide +kernel
theorem dX9_thing_97 : decode cX9_thing 97 = .ok (.dup, 1) := by decide +kernel
theorem dX9_thing_98 : decode cX9_thing 98 = .ok (.getfield 111, 3) := by decide +kernel
theorem dX9_thing_101 : decode cX9_thing 101 = .ok (.iconst 1, 1) := by decide +kernel
theorem dX9_thing_102 : decode cX9_thing 102 = .ok (.iadd, 1) := by decide +kernel
theorem dX9_thing_103 : decode cX9_thing 103 = .ok (.putfield 111, 3) := by decide +kernel
theorem dX9_thing_106 : decode cX9_thing 106 = .ok (.iconst 1, 1) := by decide +kernel
theorem dX9_thing_107 : decode cX9_thing 107 = .ok (.ireturn, 1) := by decide +kernel
theorem dX9_task_0 : decode cX9_task 0 = .ok (.aload_n 0, 1) := by decide +kernel
theorem dX9_task_1 : decode cX9_task 1 = .ok (.iconst 0, 1) := by decide +kernel
theorem dX9_task_2 : decode cX9_task 2 = .ok (.putfield 95, 3) := by decide +kernel
theorem dX9_task_5 : decode cX9_task 5 = .ok (.iload_n 1, 1) := by decide +kernel
theorem dX9_task_6 : decode cX9_task 6 = .ok (.iconst 0, 1) := by decide +kernel
theorem dX9_task_7 : decode cX9_task 7 = .ok (.bipush 15, 2) := by decide +kernel
theorem dX9_task_9 : decode cX9_task 9 = .ok (.invokestatic 99, 3) := by decide +kernel
theorem dX9_task_12 : decode cX9_task 12 = .ok (.ifCond .eq 34, 3) := by decide +kernel
theorem dX9_task_15 : decode cX9_task 15 = .ok (.iload_n 2, 1) := by decide +kernel
theorem dX9_task_16 : decode cX9_task 16 = .ok (.iconst 0, 1) := by decide +kernel
theorem dX9_task_17 : decode cX9_task 17 = .ok (.bipush 11, 2) := by decide +kernel
theorem dX9_task_19 : decode cX9_task 19 = .ok (.invokestatic 99, 3) := by decide +kernel
theorem dX9_task_22 : decode cX9_task 22 = .ok (.ifCond .eq 24, 3) := by decide +kernel
theorem dX9_task_25 : decode cX9_task 25 = .ok (.iload_n 3, 1) := by decide +kernel
theorem dX9_task_26 : decode cX9_task 26 = .ok (.iconst 0, 1) := by decide +kernel
theorem dX9_task_27 : decode cX9_task 27 = .ok (.ldc 118, 2) := by decide +kernel
theorem dX9_task_29 : decode cX9_task 29 = .ok (.invokestatic 99, 3) := by decide +kernel
theorem dX9_task_32 : decode cX9_task 32 = .ok (.ifCond .eq 14, 3) := by decide +kernel
theorem dX9_task_35 : decode cX9_task 35 = .ok (.iload 4, 2) := by decide +kernel
theorem dX9_task_37 : decode cX9_task 37 = .ok (.iconst 0, 1) := by decide +kernel
theorem dX9_task_38 : decode cX9_task 38 = .ok (.ldc 118, 2) := by decide +kernel
theorem dX9_task_40 : decode cX9_task 40 = .ok (.invokestatic 99, 3) := by decide +kernel
theorem dX9_task_43 : decode cX9_task 43 = .ok (.ifCond .ne 5, 3) := by decide +kernel
theorem dX9_task_46 : decode cX9_task 46 = .ok (.iconst 0, 1) := by decide +kernel
theorem dX9_task_47 : decode cX9_task 47 = .ok (.ireturn, 1) := by decide +kernel
theorem dX9_task_48 : decode cX9_task 48 = .ok (.iload 5, 2) := by decide +kernel
theorem dX9_task_50 : decode cX9_task 50 = .ok (.iconst 0, 1) := by decide +kernel
theorem dX9_task_51 : decode cX9_task 51 = .ok (.ldc 119, 2) := by decide +kernel
theorem dX9_task_53 : decode cX9_task 53 = .ok (.invokestatic 99, 3) := by decide +kernel
theorem dX9_task_56 : decode cX9_task 56 = .ok (.ifCond .eq 35, 3) := by decide +kernel
theorem dX9_task_59 : decode cX9_task 59 = .ok (.iload 5, 2) := by decide +kernel
theorem dX9_task_61 : decode cX9_task 61 = .ok (.sipush 1000, 3) := by decide +kernel
theorem dX9_task_64 : decode cX9_task 64 = .ok (.irem, 1) := by decide +kernel
theorem dX9_task_65 : decode cX9_task 65 = .ok (.sipush 500, 3) := by decide +kernel
theorem dX9_task_68 : decode cX9_task 68 = .ok (.if_icmp .gt 23, 3) := by decide +kernel
theorem dX9_task_71 : decode cX9_task 71 = .ok (.aload_n 0, 1) := by decide +kernel
theorem dX9_task_72 : decode cX9_task 72 = .ok (.getfield 31, 3) := by decide +kernel
theorem dX9_task_75 : decode cX9_task 75 = .ok (.iload_n 1, 1) := by decide +kernel
theorem dX9_task_76 : decode cX9_task 76 = .ok (.iaload, 1) := by decide +kernel
theorem dX9_task_77 : decode cX9_task 77 = .ok (.iconst (-1), 1) := by decide +kernel
theorem dX9_task_78 : decode cX9_task 78 = .ok (.if_icmp .eq 15, 3) := by decide +kernel
theorem dX9_task_81 : decode cX9_task 81 = .ok (.aload_n 0, 1) := by decide +kernel
theorem dX9_task_82 : decode cX9_task 82 = .ok (.getfield 31, 3) := by decide +kernel
theorem dX9_task_85 : decode cX9_task 85 = .ok (.iload_n 1, 1) := by decide +kernel
theorem dX9_task_86 : decode cX9_task 86 = .ok (.iaload, 1) := by decide +kernel
theorem dX9_task_87 : decode cX9_task 87 = .ok (.iload_n 2, 1) := by decide +kernel
theorem dX9_task_88 : decode cX9_task 88 = .ok (.if_icmp .eq 5, 3) := by decide +kernel
theorem dX9_task_91 : decode cX9_task 91 = .ok (.iconst 0, 1) := by decide +kernel
theorem dX9_task_92 : decode cX9_task 92 = .ok (.ireturn, 1) := by decide +kernel
theorem dX9_task_93 : decode cX9_task 93 = .ok (.aload_n 0, 1) := by decide +kernel
theorem dX9_task_94 : decode cX9_task 94 = .ok (.getfield 31, 3) := by decide +kernel
theorem dX9_task_97 : decode cX9_task 97 = .ok (.iload_n 1, 1) := by decide +kernel
theorem dX9_task_98 : decode cX9_task 98 = .ok (.iload_n 2, 1) := by decide +kernel
theorem dX9_task_99 : decode cX9_task 99 = .ok (.iastore, 1) := by decide +kernel
theorem dX9_task_100 : decode cX9_task 100 = .ok (.aload_n 0, 1) := by decide +kernel
theorem dX9_task_101 : decode cX9_task 101 = .ok (.getfield 34, 3) := by decide +kernel
theorem dX9_task_104 : decode cX9_task 104 = .ok (.iconst 3, 1) := by decide +kernel
theorem dX9_task_105 : decode cX9_task 105 = .ok (.iload_n 1, 1) := by decide +kernel
theorem dX9_task_106 : decode cX9_task 106 = .ok (.imul, 1) := by decide +kernel
theorem dX9_task_107 : decode cX9_task 107 = .ok (.iload_n 3, 1) := by decide +kernel
theorem dX9_task_108 : decode cX9_task 108 = .ok (.iastore, 1) := by decide +kernel
theorem dX9_task_109 : decode cX9_task 109 = .ok (.aload_n 0, 1) := by decide +kernel
theorem dX9_task_110 : decode cX9_task 110 = .ok (.getfield 34, 3) := by decide +kernel
theorem dX9_task_113 : decode cX9_task 113 = .ok (.iconst 3, 1) := by decide +kernel
theorem dX9_task_114 : decode cX9_task 114 = .ok (.iload_n 1, 1) := by decide +kernel
theorem dX9_task_115 : decode cX9_task 115 = .ok (.imul, 1) := by decide +kernel
theorem dX9_task_116 : decode cX9_task 116 = .ok (.iconst 1, 1) := by decide +kernel
theorem dX9_task_117 : decode cX9_task 117 = .ok (.iadd, 1) := by decide +kernel
theorem dX9_task_118 : decode cX9_task 118 = .ok (.iload 4, 2) := by decide +kernel
theorem dX9_task_120 : decode cX9_task 120 = .ok (.iastore, 1) := by decide +kernel
theorem dX9_task_121 : decode cX9_task 121 = .ok (.aload_n 0, 1) := by decide +kernel
theorem dX9_task_122 : decode cX9_task 122 = .ok (.getfield 34, 3) := by decide +kernel
theorem dX9_task_125 : decode cX9_task 125 = .ok (.iconst 3, 1) := by decide +kernel
theorem dX9_task_126 : decode cX9_task 126 = .ok (.iload_n 1, 1) := by decide +kernel
theorem dX9_task_127 : decode cX9_task 127 = .ok (.imul, 1) := by decide +kernel
theorem dX9_task_128 : decode cX9_task 128 = .ok (.iconst 2, 1) := by decide +kernel
theorem dX9_task_129 : decode cX9_task 129 = .ok (.iadd, 1) := by decide +kernel
theorem dX9_task_130 : decode cX9_task 130 = .ok (.iload 5, 2) := by decide +kernel
theorem dX9_task_132 : decode cX9_task 132 = .ok (.sipush 1000, 3) := by decide +kernel
theorem dX9_task_135 : decode cX9_task 135 = .ok (.idiv, 1) := by decide +kernel
theorem dX9_task_136 : decode cX9_task 136 = .ok (.iastore, 1) := by decide +kernel
theorem dX9_task_137 : decode cX9_task 137 = .ok (.aload_n 0, 1) := by decide +kernel
theorem dX9_task_138 : decode cX9_task 138 = .ok (.getfield 37, 3) := by decide +kernel
theorem dX9_task_141 : decode cX9_task 141 = .ok (.iload_n 1, 1) := by decide +kernel
theorem dX9_task_142 : decode cX9_task 142 = .ok (.iload 5, 2) := by decide +kernel
theorem dX9_task_144 : decode cX9_task 144 = .ok (.sipush 1000, 3) := by decide +kernel
theorem dX9_task_147 : decode cX9_task 147 = .ok (.irem, 1) := by decide +kernel
theorem dX9_task_148 : decode cX9_task 148 = .ok (.iastore, 1) := by decide +kernel
theorem dX9_task_149 : decode cX9_task 149 = .ok (.iconst 1, 1) := by decide +kernel
theorem dX9_task_150 : decode cX9_task 150 = .ok (.ireturn, 1) := by decide +kernel
theorem dX9_order_0 : decode cX9_order 0 = .ok (.aload_n 0, 1) := by decide +kernel
theorem dX9_order_1 : decode cX9_order 1 = .ok (.iconst 0, 1) := by decide +kernel
theorem dX9_order_2 : decode cX9_order 2 = .ok (.putfield 95, 3) := by decide +kernel
theorem dX9_order_5 : decode cX9_order 5 = .ok (.iload_n 1, 1) := by decide +kernel
theorem dX9_order_6 : decode cX9_order 6 = .ok (.iconst 0, 1) := by decide +kernel
theorem dX9_order_7 : decode cX9_order 7 = .ok (.bipush 7, 2) := by decide +kernel
theorem dX9_order_9 : decode cX9_order 9 = .ok (.invokestatic 99, 3) := by decide +kernel
theorem dX9_order_12 : decode cX9_order 12 = .ok (.ifCond .eq 35, 3) := by decide +kernel
theorem dX9_order_15 : decode cX9_order 15 = .ok (.iload_n 2, 1) := by decide +kernel
theorem dX9_order_16 : decode cX9_order 16 = .ok (.iconst 0, 1) := by decide +kernel
theorem dX9_order_17 : decode cX9_order 17 = .ok (.bipush 11, 2) := by decide +kernel
theorem dX9_order_19 : decode cX9_order 19 = .ok (.invokestatic 99, 3) := by decide +kernel
theorem dX9_order_22 : decode cX9_order 22 = .ok (.ifCond .eq 25, 3) := by decide +kernel
theorem dX9_order_25 : decode cX9_order 25 = .ok (.iload_n 3, 1) := by decide +kernel
theorem dX9_order_26 : decode cX9_order 26 = .ok (.iconst 0, 1) := by decide +kernel
theorem dX9_order_27 : decode cX9_order 27 = .ok (.sipush 1599, 3) := by decide +kernel
theorem dX9_order_30 : decode cX9_order 30 = .ok (.invokestatic 99, 3) := by decide +kernel
theorem dX9_order_33 : decode cX9_order 33 = .ok (.ifCond .eq 14, 3) := by decide +kernel
theorem dX9_order_36 : decode cX9_order 36 = .ok (.iload_n 3, 1) := by decide +kernel
theorem dX9_order_37 : decode cX9_order 37 = .ok (.bipush 40, 2) := by decide +kernel
theorem dX9_order_39 : decode cX9_order 39 = .ok (.idiv, 1) := by decide +kernel
theorem dX9_order_40 : decode cX9_order 40 = .ok (.iload_n 3, 1) := by decide +kernel
theorem dX9_order_41 : decode cX9_order 41 = .ok (.bipush 40, 2) := by decide +kernel
theorem dX9_order_43 : decode cX9_order 43 = .ok (.irem, 1) := by decide +kernel
theorem dX9_order_44 : decode cX9_order 44 = .ok (.if_icmp .le 5, 3) := by decide +kernel
theorem dX9_order_47 : decode cX9_order 47 = .ok (.iconst 0, 1) := by decide +kernel
theorem dX9_order_48 : decode cX9_order 48 = .ok (.ireturn, 1) := by decide +kernel
theorem dX9_order_49 : decode cX9_order 49 = .ok (.aload_n 0, 1) := by decide +kernel
theorem dX9_order_50 : decode cX9_order 50 = .ok (.iload 4, 2) := by decide +kernel
theorem dX9_order_52 : decode cX9_order 52 = .ok (.invokevirtual 120, 3) := by decide +kernel
theorem dX9_order_55 : decode cX9_order 55 = .ok (.ifCond .eq 18, 3) := by decide +kernel
theorem dX9_order_58 : decode cX9_order 58 = .ok (.iload 5, 2) := by decide +kernel
theorem dX9_order_60 : decode cX9_order 60 = .ok (.iconst (-1), 1) := by decide +kernel
theorem dX9_order_61 : decode cX9_order 61 = .ok (.if_icmp .eq 14, 3) := by decide +kernel
theorem dX9_order_64 : decode cX9_order 64 = .ok (.aload_n 0, 1) := by decide +kernel
theorem dX9_order_65 : decode cX9_order 65 = .ok (.iload 5, 2) := by decide +kernel
theorem dX9_order_67 : decode cX9_order 67 = .ok (.invokevirtual 120, 3) := by decide +kernel
theorem dX9_order_70 : decode cX9_order 70 = .ok (.ifCond .ne 5, 3) := by decide +kernel
theorem dX9_order_73 : decode cX9_order 73 = .ok (.iconst 0, 1) := by decide +kernel
theorem dX9_order_74 : decode cX9_order 74 = .ok (.ireturn, 1) := by decide +kernel
theorem dX9_order_75 : decode cX9_order 75 = .ok (.aload_n 0, 1) := by decide +kernel
theorem dX9_order_76 : decode cX9_order 76 = .ok (.getfield 40, 3) := by decide +kernel
theorem dX9_order_79 : decode cX9_order 79 = .ok (.iload_n 1, 1) := by decide +kernel
theorem dX9_order_80 : decode cX9_order 80 = .ok (.iload_n 2, 1) := by decide +kernel
theorem dX9_order_81 : decode cX9_order 81 = .ok (.iastore, 1) := by decide +kernel
theorem dX9_order_82 : decode cX9_order 82 = .ok (.aload_n 0, 1) := by decide +kernel
theorem dX9_order_83 : decode cX9_order 83 = .ok (.getfield 43, 3) := by decide +kernel
theorem dX9_order_86 : decode cX9_order 86 = .ok (.iload_n 1, 1) := by decide +kernel
theorem dX9_order_87 : decode cX9_order 87 = .ok (.iload_n 3, 1) := by decide +kernel
theorem dX9_order_88 : decode cX9_order 88 = .ok (.bipush 40, 2) := by decide +kernel
theorem dX9_order_90 : decode cX9_order 90 = .ok (.idiv, 1) := by decide +kernel
theorem dX9_order_91 : decode cX9_order 91 = .ok (.iastore, 1) := by decide +kernel
theorem dX9_order_92 : decode cX9_order 92 = .ok (.aload_n 0, 1) := by decide +kernel
theorem dX9_order_93 : decode cX9_order 93 = .ok (.getfield 46, 3) := by decide +kernel
theorem dX9_order_96 : decode cX9_order 96 = .ok (.iload_n 1, 1) := by decide +kernel
theorem dX9_order_97 : decode cX9_order 97 = .ok (.iload_n 3, 1) := by decide +kernel
theorem dX9_order_98 : decode cX9_order 98 = .ok (.bipush 40, 2) := by decide +kernel
theorem dX9_order_100 : decode cX9_order 100 = .ok (.irem, 1) := by decide +kernel
theorem dX9_order_101 : decode cX9_order 101 = .ok (.iastore, 1) := by decide +kernel
theorem dX9_order_102 : decode cX9_order 102 = .ok (.aload_n 0, 1) := by decide +kernel
theorem dX9_order_103 : decode cX9_order 103 = .ok (.getfield 49, 3) := by decide +kernel
theorem dX9_order_106 : decode cX9_order 106 = .ok (.iload_n 1, 1) := by decide +kernel
theorem dX9_order_107 : decode cX9_order 107 = .ok (.iload 4, 2) := by decide +kernel
theorem dX9_order_109 : decode cX9_order 109 = .ok (.iastore, 1) := by decide +kernel
theorem dX9_order_110 : decode cX9_order 110 = .ok (.aload_n 0, 1) := by decide +kernel
theorem dX9_order_111 : decode cX9_order 111 = .ok (.getfield 52, 3) := by decide +kernel
theorem dX9_order_114 : decode cX9_order 114 = .ok (.iload_n 1, 1) := by decide +kernel
theorem dX9_order_115 : decode cX9_order 115 = .ok (.iload 5, 2) := by decide +kernel
theorem dX9_order_117 : decode cX9_order 117 = .ok (.iastore, 1) := by decide +kernel
theorem dX9_order_118 : decode cX9_order 118 = .ok (.iconst 1, 1) := by decide +kernel
theorem dX9_order_119 : decode cX9_order 119 = .ok (.ireturn, 1) := by decide +kernel
theorem dX9_life_0 : decode cX9_life 0 = .ok (.aload_n 0, 1) := by decide +kernel
theorem dX9_life_1 : decode cX9_life 1 = .ok (.iconst 0, 1) := by decide +kernel
theorem dX9_life_2 : decode cX9_life 2 = .ok (.putfield 95, 3) := by decide +kernel
theorem dX9_life_5 : decode cX9_life 5 = .ok (.iload_n 1, 1) := by decide +kernel
theorem dX9_life_6 : decode cX9_life 6 = .ok (.iconst 0, 1) := by decide +kernel
theorem dX9_life_7 : decode cX9_life 7 = .ok (.bipush 11, 2) := by decide +kernel
theorem dX9_life_9 : decode cX9_life 9 = .ok (.invokestatic 99, 3) := by decide +kernel
theorem dX9_life_12 : decode cX9_life 12 = .ok (.ifCond .eq 23, 3) := by decide +kernel
theorem dX9_life_15 : decode cX9_life 15 = .ok (.iload_n 2, 1) := by decide +kernel
theorem dX9_life_16 : decode cX9_life 16 = .ok (.iconst 0, 1) := by decide +kernel
theorem dX9_life_17 : decode cX9_life 17 = .ok (.ldc 114, 2) := by decide +kernel
theorem dX9_life_19 : decode cX9_life 19 = .ok (.invokestatic 99, 3) := by decide +kernel
theorem dX9_life_22 : decode cX9_life 22 = .ok (.ifCond .eq 13, 3) := by decide +kernel
theorem dX9_life_25 : decode cX9_life 25 = .ok (.iload_n 3, 1) := by decide +kernel
theorem dX9_life_26 : decode cX9_life 26 = .ok (.iconst 0, 1) := by decide +kernel
theorem dX9_life_27 : decode cX9_life 27 = .ok (.ldc 114, 2) := by decide +kernel
theorem dX9_life_29 : decode cX9_life 29 = .ok (.invokestatic 99, 3) := by decide +kernel
theorem dX9_life_32 : decode cX9_life 32 = .ok (.ifCond .ne 5, 3) := by decide +kernel
theorem dX9_life_35 : decode cX9_life 35 = .ok (.iconst 0, 1) := by decide +kernel
theorem dX9_life_36 : decode cX9_life 36 = .ok (.ireturn, 1) := by decide +kernel
theorem dX9_life_37 : decode cX9_life 37 = .ok (.aload_n 0, 1) := by decide +kernel
theorem dX9_life_38 : decode cX9_life 38 = .ok (.getfield 13, 3) := by decide +kernel
theorem dX9_life_41 : decode cX9_life 41 = .ok (.iload_n 1, 1) := by decide +kernel
theorem dX9_life_42 : decode cX9_life 42 = .ok (.iload_n 2, 1) := by decide +kernel
theorem dX9_life_43 : decode cX9_life 43 = .ok (.iastore, 1) := by decide +kernel
theorem dX9_life_44 : decode cX9_life 44 = .ok (.aload_n 0, 1) := by decide +kernel
theorem dX9_life_45 : decode cX9_life 45 = .ok (.getfield 16, 3) := by decide +kernel
theorem dX9_life_48 : decode cX9_life 48 = .ok (.iload_n 1, 1) := by decide +kernel
theorem dX9_life_49 : decode cX9_life 49 = .ok (.iload_n 3, 1) := by decide +kernel
theorem dX9_life_50 : decode cX9_life 50 = .ok (.iastore, 1) := by decide +kernel
theorem dX9_life_51 : decode cX9_life 51 = .ok (.iconst 1, 1) := by decide +kernel
theorem dX9_life_52 : decode cX9_life 52 = .ok (.ireturn, 1) := by decide +kernel
theorem dX9_isMove_0 : decode cX9_isMove 0 = .ok (.aload_n 0, 1) := by decide +kernel
theorem dX9_isMove_1 : decode cX9_isMove 1 = .ok (.getfield 58, 3) := by decide +kernel
theorem dX9_isMove_4 : decode cX9_isMove 4 = .ok (.iload_n 1, 1) := by decide +kernel
theorem dX9_isMove_5 : decode cX9_isMove 5 = .ok (.baload, 1) := by decide +kernel
theorem dX9_isMove_6 : decode cX9_isMove 6 = .ok (.ifCond .eq 27, 3) := by decide +kernel
theorem dX9_isMove_9 : decode cX9_isMove 9 = .ok (.aload_n 0, 1) := by decide +kernel
theorem dX9_isMove_10 : decode cX9_isMove 10 = .ok (.getfield 55, 3) := by decide +kernel
theorem dX9_isMove_13 : decode cX9_isMove 13 = .ok (.iload_n 1, 1) := by decide +kernel
theorem dX9_isMove_14 : decode cX9_isMove 14 = .ok (.iaload, 1) := by decide +kernel
theorem dX9_isMove_15 : decode cX9_isMove 15 = .ok (.iconst 1, 1) := by decide +kernel
theorem dX9_isMove_16 : decode cX9_isMove 16 = .ok (.if_icmp .eq 13, 3) := by decide +kernel
theorem dX9_isMove_19 : decode cX9_isMove 19 = .ok (.aload_n 0, 1) := by decide +kernel
theorem dX9_isMove_20 : decode cX9_isMove 20 = .ok (.getfield 55, 3) := by decide +kernel
theorem dX9_isMove_23 : decode cX9_isMove 23 = .ok (.iload_n 1, 1) := by decide +kernel
theorem dX9_isMove_24 : decode cX9_isMove 24 = .ok (.iaload, 1) := by decide +kernel
theorem dX9_isMove_25 : decode cX9_isMove 25 = .ok (.iconst 2, 1) := by decide +kernel
theorem dX9_isMove_26 : decode cX9_isMove 26 = .ok (.if_icmp .ne 7, 3) := by decide +kernel
theorem dX9_isMove_29 : decode cX9_isMove 29 = .ok (.iconst 1, 1) := by decide +kernel
theorem dX9_isMove_30 : decode cX9_isMove 30 = .ok (.goto 4, 3) := by decide +kernel
theorem dX9_isMove_33 : decode cX9_isMove 33 = .ok (.iconst 0, 1) := by decide +kernel
theorem dX9_isMove_34 : decode cX9_isMove 34 = .ok (.ireturn, 1) := by decide +kernel
theorem dX9_sortMoves_0 : decode cX9_sortMoves 0 = .ok (.aload_n 0, 1) := by decide +kernel
theorem dX9_sortMoves_1 : decode cX9_sortMoves 1 = .ok (.iconst 0, 1) := by decide +kernel
theorem dX9_sortMoves_2 : decode cX9_sortMoves 2 = .ok (.putfield 123, 3) := by decide +kernel
theorem dX9_sortMoves_5 : decode cX9_sortMoves 5 = .ok (.iconst 0, 1) := by decide +kernel
theorem dX9_sortMoves_6 : decode cX9_sortMoves 6 = .ok (.istore_n 1, 1) := by decide +kernel
theorem dX9_sortMoves_7 : decode cX9_sortMoves 7 = .ok (.iload_n 1, 1) := by decide +kernel
theorem dX9_sortMoves_8 : decode cX9_sortMoves 8 = .ok (.aload_n 0, 1) := by decide +kernel
theorem dX9_sortMoves_9 : decode cX9_sortMoves 9 = .ok (.getfield 126, 3) := by decide +kernel
theorem dX9_sortMoves_12 : decode cX9_sortMoves 12 = .ok (.if_icmp .ge 88, 3) := by decide +kernel
theorem dX9_sortMoves_15 : decode cX9_sortMoves 15 = .ok (.aload_n 0, 1) := by decide +kernel
theorem dX9_sortMoves_16 : decode cX9_sortMoves 16 = .ok (.iload_n 1, 1) := by decide +kernel
theorem dX9_sortMoves_17 : decode cX9_sortMoves 17 = .ok (.invokevirtual 129, 3) := by decide +kernel
theorem dX9_sortMoves_20 : decode cX9_sortMoves 20 = .ok (.ifCond .ne 6, 3) := by decide +kernel
theorem dX9_sortMoves_23 : decode cX9_sortMoves 23 = .ok (.goto 71, 3) := by decide +kernel
theorem dX9_sortMoves_26 : decode cX9_sortMoves 26 = .ok (.aload_n 0, 1) := by decide +kernel
theorem dX9_sortMoves_27 : decode cX9_sortMoves 27 = .ok (.getfield 123, 3) := by decide +kernel
theorem dX9_sortMoves_30 : decode cX9_sortMoves 30 = .ok (.istore_n 2, 1) := by decide +kernel
theorem dX9_sortMoves_31 : decode cX9_sortMoves 31 = .ok (.iload_n 2, 1) := by decide +kernel
theorem dX9_sortMoves_32 : decode cX9_sortMoves 32 = .ok (.ifCond .le 45, 3) := by decide +kernel
theorem dX9_sortMoves_35 : decode cX9_sortMoves 35 = .ok (.aload_n 0, 1) := by decide +kernel
theorem dX9_sortMoves_36 : decode cX9_sortMoves 36 = .ok (.getfield 65, 3) := by decide +kernel
theorem dX9_sortMoves_39 : decode cX9_sortMoves 39 = .ok (.aload_n 0, 1) := by decide +kernel
theorem dX9_sortMoves_40 : decode cX9_sortMoves 40 = .ok (.getfield 77, 3) := by decide +kernel
theorem dX9_sortMoves_43 : decode cX9_sortMoves 43 = .ok (.iload_n 2, 1) := by decide +kernel
theorem dX9_sortMoves_44 : decode cX9_sortMoves 44 = .ok (.iconst 1, 1) := by decide +kernel
theorem dX9_sortMoves_45 : decode cX9_sortMoves 45 = .ok (.isub, 1) := by decide +kernel
theorem dX9_sortMoves_46 : decode cX9_sortMoves 46 = .ok (.iaload, 1) := by decide +kernel
theorem dX9_sortMoves_47 : decode cX9_sortMoves 47 = .ok (.iaload, 1) := by decide +kernel
theorem dX9_sortMoves_48 : decode cX9_sortMoves 48 = .ok (.aload_n 0, 1) := by decide +kernel
theorem dX9_sortMoves_49 : decode cX9_sortMoves 49 = .ok (.getfield 65, 3) := by decide +kernel
theorem dX9_sortMoves_52 : decode cX9_sortMoves 52 = .ok (.iload_n 1, 1) := by decide +kernel
theorem dX9_sortMoves_53 : decode cX9_sortMoves 53 = .ok (.iaload, 1) := by decide +kernel
theorem dX9_sortMoves_54 : decode cX9_sortMoves 54 = .ok (.if_icmp .le 23, 3) := by decide +kernel
theorem dX9_sortMoves_57 : decode cX9_sortMoves 57 = .ok (.aload_n 0, 1) := by decide +kernel
theorem dX9_sortMoves_58 : decode cX9_sortMoves 58 = .ok (.getfield 77, 3) := by decide +kernel
theorem dX9_sortMoves_61 : decode cX9_sortMoves 61 = .ok (.iload_n 2, 1) := by decide +kernel
theorem dX9_sortMoves_62 : decode cX9_sortMoves 62 = .ok (.aload_n 0, 1) := by decide +kernel
theorem dX9_sortMoves_63 : decode cX9_sortMoves 63 = .ok (.getfield 77, 3) := by decide +kernel
theorem dX9_sortMoves_66 : decode cX9_sortMoves 66 = .ok (.iload_n 2, 1) := by decide +kernel
theorem dX9_sortMoves_67 : decode cX9_sortMoves 67 = .ok (.iconst 1, 1) := by decide +kernel
theorem dX9_sortMoves_68 : decode cX9_sortMoves 68 = .ok (.isub, 1) := by decide +kernel
theorem dX9_sortMoves_69 : decode cX9_sortMoves 69 = .ok (.iaload, 1) := by decide +kernel
theorem dX9_sortMoves_70 : decode cX9_sortMoves 70 = .ok (.iastore, 1) := by decide +kernel
theorem dX9_sortMoves_71 : decode cX9_sortMoves 71 = .ok (.iinc 2 (-1), 3) := by decide +kernel
theorem dX9_sortMoves_74 : decode cX9_sortMoves 74 = .ok (.goto (-43), 3) := by decide +kernel
theorem dX9_sortMoves_77 : decode cX9_sortMoves 77 = .ok (.aload_n 0, 1) := by decide +kernel
theorem dX9_sortMoves_78 : decode cX9_sortMoves 78 = .ok (.getfield 77, 3) := by decide +kernel
theorem dX9_sortMoves_81 : decode cX9_sortMoves 81 = .ok (.iload_n 2, 1) := by decide +kernel
theorem dX9_sortMoves_82 : decode cX9_sortMoves 82 = .ok (.iload_n 1, 1) := by decide +kernel
theorem dX9_sortMoves_83 : decode cX9_sortMoves 83 = .ok (.iastore, 1) := by decide +kernel
theorem dX9_sortMoves_84 : decode cX9_sortMoves 84 = .ok (.aload_n 0, 1) := by decide +kernel
theorem dX9_sortMoves_85 : decode cX9_sortMoves 85 = .ok (.dup, 1) := by decide +kernel
theorem dX9_sortMoves_86 : decode cX9_sortMoves 86 = .ok (.getfield 123, 3) := by decide +kernel
theorem dX9_sortMoves_89 : decode cX9_sortMoves 89 = .ok (.iconst 1, 1) := by decide +kernel
theorem dX9_sortMoves_90 : decode cX9_sortMoves 90 = .ok (.iadd, 1) := by decide +kernel
theorem dX9_sortMoves_91 : decode cX9_sortMoves 91 = .ok (.putfield 123, 3) := by decide +kernel
theorem dX9_sortMoves_94 : decode cX9_sortMoves 94 = .ok (.iinc 1 1, 3) := by decide +kernel
theorem dX9_sortMoves_97 : decode cX9_sortMoves 97 = .ok (.goto (-90), 3) := by decide +kernel
theorem dX9_sortMoves_100 : decode cX9_sortMoves 100 = .ok (.return_, 1) := by decide +kernel
theorem dX9_depth_0 : decode cX9_depth 0 = .ok (.iconst 0, 1) := by decide +kernel
theorem dX9_depth_1 : decode cX9_depth 1 = .ok (.istore_n 2, 1) := by decide +kernel
theorem dX9_depth_2 : decode cX9_depth 2 = .ok (.iload_n 1, 1) := by decide +kernel
theorem dX9_depth_3 : decode cX9_depth 3 = .ok (.istore_n 3, 1) := by decide +kernel
theorem dX9_depth_4 : decode cX9_depth 4 = .ok (.aload_n 0, 1) := by decide +kernel
theorem dX9_depth_5 : decode cX9_depth 5 = .ok (.getfield 80, 3) := by decide +kernel
theorem dX9_depth_8 : decode cX9_depth 8 = .ok (.iload_n 3, 1) := by decide +kernel
theorem dX9_depth_9 : decode cX9_depth 9 = .ok (.iaload, 1) := by decide +kernel
theorem dX9_depth_10 : decode cX9_depth 10 = .ok (.iconst (-1), 1) := by decide +kernel
theorem dX9_depth_11 : decode cX9_depth 11 = .ok (.if_icmp .eq 16, 3) := by decide +kernel
theorem dX9_depth_14 : decode cX9_depth 14 = .ok (.iinc 2 1, 3) := by decide +kernel
theorem dX9_depth_17 : decode cX9_depth 17 = .ok (.aload_n 0, 1) := by decide +kernel
theorem dX9_depth_18 : decode cX9_depth 18 = .ok (.getfield 80, 3) := by decide +kernel
theorem dX9_depth_21 : decode cX9_depth 21 = .ok (.iload_n 3, 1) := by decide +kernel
theorem dX9_depth_22 : decode cX9_depth 22 = .ok (.iaload, 1) := by decide +kernel
theorem dX9_depth_23 : decode cX9_depth 23 = .ok (.istore_n 3, 1) := by decide +kernel
theorem dX9_depth_24 : decode cX9_depth 24 = .ok (.goto (-20), 3) := by decide +kernel
theorem dX9_depth_27 : decode cX9_depth 27 = .ok (.iload_n 2, 1) := by decide +kernel
theorem dX9_depth_28 : decode cX9_depth 28 = .ok (.ireturn, 1) := by decide +kernel
theorem dX9_isIn_0 : decode cX9_isIn 0 = .ok (.iload_n 1, 1) := by decide +kernel
theorem dX9_isIn_1 : decode cX9_isIn 1 = .ok (.istore_n 3, 1) := by decide +kernel
theorem dX9_isIn_2 : decode cX9_isIn 2 = .ok (.iload_n 3, 1) := by decide +kernel
theorem dX9_isIn_3 : decode cX9_isIn 3 = .ok (.iload_n 2, 1) := by decide +kernel
theorem dX9_isIn_4 : decode cX9_isIn 4 = .ok (.if_icmp .eq 23, 3) := by decide +kernel
theorem dX9_isIn_7 : decode cX9_isIn 7 = .ok (.aload_n 0, 1) := by decide +kernel
theorem dX9_isIn_8 : decode cX9_isIn 8 = .ok (.getfield 80, 3) := by decide +kernel
theorem dX9_isIn_11 : decode cX9_isIn 11 = .ok (.iload_n 3, 1) := by decide +kernel
theorem dX9_isIn_12 : decode cX9_isIn 12 = .ok (.iaload, 1) := by decide +kernel
theorem dX9_isIn_13 : decode cX9_isIn 13 = .ok (.iconst (-1), 1) := by decide +kernel
theorem dX9_isIn_14 : decode cX9_isIn 14 = .ok (.if_icmp .eq 13, 3) := by decide +kernel
theorem dX9_isIn_17 : decode cX9_isIn 17 = .ok (.aload_n 0, 1) := by decide +kernel
theorem dX9_isIn_18 : decode cX9_isIn 18 = .ok (.getfield 80, 3) := by decide +kernel
theorem dX9_isIn_21 : decode cX9_isIn 21 = .ok (.iload_n 3, 1) := by decide +kernel
theorem dX9_isIn_22 : decode cX9_isIn 22 = .ok (.iaload, 1) := by decide +kernel
theorem dX9_isIn_23 : decode cX9_isIn 23 = .ok (.istore_n 3, 1) := by decide +kernel
theorem dX9_isIn_24 : decode cX9_isIn 24 = .ok (.goto (-22), 3) := by decide +kernel
theorem dX9_isIn_27 : decode cX9_isIn 27 = .ok (.iload_n 3, 1) := by decide +kernel
theorem dX9_isIn_28 : decode cX9_isIn 28 = .ok (.iload_n 2, 1) := by decide +kernel
theorem dX9_isIn_29 : decode cX9_isIn 29 = .ok (.if_icmp .ne 7, 3) := by decide +kernel
theorem dX9_isIn_32 : decode cX9_isIn 32 = .ok (.iconst 1, 1) := by decide +kernel
theorem dX9_isIn_33 : decode cX9_isIn 33 = .ok (.goto 4, 3) := by decide +kernel
theorem dX9_isIn_36 : decode cX9_isIn 36 = .ok (.iconst 0, 1) := by decide +kernel
theorem dX9_isIn_37 : decode cX9_isIn 37 = .ok (.ireturn, 1) := by decide +kernel
theorem dX9_hanging_0 : decode cX9_hanging 0 = .ok (.iconst 0, 1) := by decide +kernel
theorem dX9_hanging_1 : decode cX9_hanging 1 = .ok (.istore_n 3, 1) := by decide +kernel
theorem dX9_hanging_2 : decode cX9_hanging 2 = .ok (.iload_n 3, 1) := by decide +kernel
theorem dX9_hanging_3 : decode cX9_hanging 3 = .ok (.bipush 40, 2) := by decide +kernel
theorem dX9_hanging_5 : decode cX9_hanging 5 = .ok (.if_icmp .ge 41, 3) := by decide +kernel
theorem dX9_hanging_8 : decode cX9_hanging 8 = .ok (.aload_n 0, 1) := by decide +kernel
theorem dX9_hanging_9 : decode cX9_hanging 9 = .ok (.getfield 19, 3) := by decide +kernel
theorem dX9_hanging_12 : decode cX9_hanging 12 = .ok (.iload_n 3, 1) := by decide +kernel
theorem dX9_hanging_13 : decode cX9_hanging 13 = .ok (.iaload, 1) := by decide +kernel
theorem dX9_hanging_14 : decode cX9_hanging 14 = .ok (.iconst (-1), 1) := by decide +kernel
theorem dX9_hanging_15 : decode cX9_hanging 15 = .ok (.if_icmp .eq 25, 3) := by decide +kernel
theorem dX9_hanging_18 : decode cX9_hanging 18 = .ok (.aload_n 0, 1) := by decide +kernel
theorem dX9_hanging_19 : decode cX9_hanging 19 = .ok (.getfield 80, 3) := by decide +kernel
theorem dX9_hanging_22 : decode cX9_hanging 22 = .ok (.iload_n 3, 1) := by decide +kernel
theorem dX9_hanging_23 : decode cX9_hanging 23 = .ok (.iaload, 1) := by decide +kernel
theorem dX9_hanging_24 : decode cX9_hanging 24 = .ok (.iload_n 1, 1) := by decide +kernel
theorem dX9_hanging_25 : decode cX9_hanging 25 = .ok (.if_icmp .ne 15, 3) := by decide +kernel
theorem dX9_hanging_28 : decode cX9_hanging 28 = .ok (.aload_n 0, 1) := by decide +kernel
theorem dX9_hanging_29 : decode cX9_hanging 29 = .ok (.getfield 83, 3) := by decide +kernel
theorem dX9_hanging_32 : decode cX9_hanging 32 = .ok (.iload_n 3, 1) := by decide +kernel
theorem dX9_hanging_33 : decode cX9_hanging 33 = .ok (.iaload, 1) := by decide +kernel
theorem dX9_hanging_34 : decode cX9_hanging 34 = .ok (.iload_n 2, 1) := by decide +kernel
theorem dX9_hanging_35 : decode cX9_hanging 35 = .ok (.if_icmp .ne 5, 3) := by decide +kernel
theorem dX9_hanging_38 : decode cX9_hanging 38 = .ok (.iload_n 3, 1) := by decide +kernel
theorem dX9_hanging_39 : decode cX9_hanging 39 = .ok (.ireturn, 1) := by decide +kernel
theorem dX9_hanging_40 : decode cX9_hanging 40 = .ok (.iinc 3 1, 3) := by decide +kernel
theorem dX9_hanging_43 : decode cX9_hanging 43 = .ok (.goto (-41), 3) := by decide +kernel
theorem dX9_hanging_46 : decode cX9_hanging 46 = .ok (.iconst (-1), 1) := by decide +kernel
theorem dX9_hanging_47 : decode cX9_hanging 47 = .ok (.ireturn, 1) := by decide +kernel
theorem dX9_height_0 : decode cX9_height 0 = .ok (.iconst 0, 1) := by decide +kernel
theorem dX9_height_1 : decode cX9_height 1 = .ok (.istore_n 2, 1) := by decide +kernel
theorem dX9_height_2 : decode cX9_height 2 = .ok (.iconst 0, 1) := by decide +kernel
theorem dX9_height_3 : decode cX9_height 3 = .ok (.istore_n 3, 1) := by decide +kernel
theorem dX9_height_4 : decode cX9_height 4 = .ok (.iload_n 3, 1) := by decide +kernel
theorem dX9_height_5 : decode cX9_height 5 = .ok (.bipush 40, 2) := by decide +kernel
theorem dX9_height_7 : decode cX9_height 7 = .ok (.if_icmp .ge 57, 3) := by decide +kernel
theorem dX9_height_10 : decode cX9_height 10 = .ok (.aload_n 0, 1) := by decide +kernel
theorem dX9_height_11 : decode cX9_height 11 = .ok (.getfield 19, 3) := by decide +kernel
theorem dX9_height_14 : decode cX9_height 14 = .ok (.iload_n 3, 1) := by decide +kernel
theorem dX9_height_15 : decode cX9_height 15 = .ok (.iaload, 1) := by decide +kernel
theorem dX9_height_16 : decode cX9_height 16 = .ok (.iconst (-1), 1) := by decide +kernel
theorem dX9_height_17 : decode cX9_height 17 = .ok (.if_icmp .eq 41, 3) := by decide +kernel
theorem dX9_height_20 : decode cX9_height 20 = .ok (.aload_n 0, 1) := by decide +kernel
theorem dX9_height_21 : decode cX9_height 21 = .ok (.iload_n 3, 1) := by decide +kernel
theorem dX9_height_22 : decode cX9_height 22 = .ok (.iload_n 1, 1) := by decide +kernel
theorem dX9_height_23 : decode cX9_height 23 = .ok (.invokevirtual 132, 3) := by decide +kernel
theorem dX9_height_26 : decode cX9_height 26 = .ok (.ifCond .ne 6, 3) := by decide +kernel
theorem dX9_height_29 : decode cX9_height 29 = .ok (.goto 29, 3) := by decide +kernel
theorem dX9_height_32 : decode cX9_height 32 = .ok (.aload_n 0, 1) := by decide +kernel
theorem dX9_height_33 : decode cX9_height 33 = .ok (.iload_n 3, 1) := by decide +kernel
theorem dX9_height_34 : decode cX9_height 34 = .ok (.invokevirtual 136, 3) := by decide +kernel
theorem dX9_height_37 : decode cX9_height 37 = .ok (.aload_n 0, 1) := by decide +kernel
theorem dX9_height_38 : decode cX9_height 38 = .ok (.iload_n 1, 1) := by decide +kernel
theorem dX9_height_39 : decode cX9_height 39 = .ok (.invokevirtual 136, 3) := by decide +kernel
theorem dX9_height_42 : decode cX9_height 42 = .ok (.isub, 1) := by decide +kernel
theorem dX9_height_43 : decode cX9_height 43 = .ok (.istore 4, 2) := by decide +kernel
theorem dX9_height_45 : decode cX9_height 45 = .ok (.iload 4, 2) := by decide +kernel
theorem dX9_height_47 : decode cX9_height 47 = .ok (.iload_n 2, 1) := by decide +kernel
theorem dX9_height_48 : decode cX9_height 48 = .ok (.if_icmp .le 8, 3) := by decide +kernel
theorem dX9_height_51 : decode cX9_height 51 = .ok (.iload 4, 2) := by decide +kernel
theorem dX9_height_53 : decode cX9_height 53 = .ok (.goto 4, 3) := by decide +kernel
theorem dX9_height_56 : decode cX9_height 56 = .ok (.iload_n 2, 1) := by decide +kernel
theorem dX9_height_57 : decode cX9_height 57 = .ok (.istore_n 2, 1) := by decide +kernel
theorem dX9_height_58 : decode cX9_height 58 = .ok (.iinc 3 1, 3) := by decide +kernel
theorem dX9_height_61 : decode cX9_height 61 = .ok (.goto (-57), 3) := by decide +kernel
theorem dX9_height_64 : decode cX9_height 64 = .ok (.iload_n 2, 1) := by decide +kernel
theorem dX9_height_65 : decode cX9_height 65 = .ok (.ireturn, 1) := by decide +kernel
theorem dX9_move_0 : decode cX9_move 0 = .ok (.aload_n 0, 1) := by decide +kernel
theorem dX9_move_1 : decode cX9_move 1 = .ok (.getfield 62, 3) := by decide +kernel
theorem dX9_move_4 : decode cX9_move 4 = .ok (.iload_n 1, 1) := by decide +kernel
theorem dX9_move_5 : decode cX9_move 5 = .ok (.iaload, 1) := by decide +kernel
theorem dX9_move_6 : decode cX9_move 6 = .ok (.istore_n 2, 1) := by decide +kernel
theorem dX9_move_7 : decode cX9_move 7 = .ok (.aload_n 0, 1) := by decide +kernel
theorem dX9_move_8 : decode cX9_move 8 = .ok (.getfield 55, 3) := by decide +kernel
theorem dX9_move_11 : decode cX9_move 11 = .ok (.iload_n 1, 1) := by decide +kernel
theorem dX9_move_12 : decode cX9_move 12 = .ok (.iaload, 1) := by decide +kernel
theorem dX9_move_13 : decode cX9_move 13 = .ok (.iconst 2, 1) := by decide +kernel
theorem dX9_move_14 : decode cX9_move 14 = .ok (.if_icmp .ne 35, 3) := by decide +kernel
theorem dX9_move_17 : decode cX9_move 17 = .ok (.aload_n 0, 1) := by decide +kernel
theorem dX9_move_18 : decode cX9_move 18 = .ok (.getfield 80, 3) := by decide +kernel
theorem dX9_move_21 : decode cX9_move 21 = .ok (.iload_n 2, 1) := by decide +kernel
theorem dX9_move_22 : decode cX9_move 22 = .ok (.iaload, 1) := by decide +kernel
theorem dX9_move_23 : decode cX9_move 23 = .ok (.iconst (-1), 1) := by decide +kernel
theorem dX9_move_24 : decode cX9_move 24 = .ok (.if_icmp .eq 7, 3) := by decide +kernel
theorem dX9_move_27 : decode cX9_move 27 = .ok (.iconst 1, 1) := by decide +kernel
theorem dX9_move_28 : decode cX9_move 28 = .ok (.goto 4, 3) := by decide +kernel
theorem dX9_move_31 : decode cX9_move 31 = .ok (.iconst 0, 1) := by decide +kernel
theorem dX9_move_32 : decode cX9_move 32 = .ok (.istore_n 3, 1) := by decide +kernel
theorem dX9_move_33 : decode cX9_move 33 = .ok (.aload_n 0, 1) := by decide +kernel
theorem dX9_move_34 : decode cX9_move 34 = .ok (.getfield 80, 3) := by decide +kernel
theorem dX9_move_37 : decode cX9_move 37 = .ok (.iload_n 2, 1) := by decide +kernel
theorem dX9_move_38 : decode cX9_move 38 = .ok (.iconst (-1), 1) := by decide +kernel
theorem dX9_move_39 : decode cX9_move 39 = .ok (.iastore, 1) := by decide +kernel
theorem dX9_move_40 : decode cX9_move 40 = .ok (.aload_n 0, 1) := by decide +kernel
theorem dX9_move_41 : decode cX9_move 41 = .ok (.getfield 83, 3) := by decide +kernel
theorem dX9_move_44 : decode cX9_move 44 = .ok (.iload_n 2, 1) := by decide +kernel
theorem dX9_move_45 : decode cX9_move 45 = .ok (.iconst (-1), 1) := by decide +kernel
theorem dX9_move_46 : decode cX9_move 46 = .ok (.iastore, 1) := by decide +kernel
theorem dX9_move_47 : decode cX9_move 47 = .ok (.iload_n 3, 1) := by decide +kernel
theorem dX9_move_48 : decode cX9_move 48 = .ok (.ireturn, 1) := by decide +kernel
theorem dX9_move_49 : decode cX9_move 49 = .ok (.aload_n 0, 1) := by decide +kernel
theorem dX9_move_50 : decode cX9_move 50 = .ok (.getfield 68, 3) := by decide +kernel
theorem dX9_move_53 : decode cX9_move 53 = .ok (.iload_n 1, 1) := by decide +kernel
theorem dX9_move_54 : decode cX9_move 54 = .ok (.iaload, 1) := by decide +kernel
theorem dX9_move_55 : decode cX9_move 55 = .ok (.istore_n 3, 1) := by decide +kernel
theorem dX9_move_56 : decode cX9_move 56 = .ok (.aload_n 0, 1) := by decide +kernel
theorem dX9_move_57 : decode cX9_move 57 = .ok (.getfield 71, 3) := by decide +kernel
theorem dX9_move_60 : decode cX9_move 60 = .ok (.iload_n 1, 1) := by decide +kernel
theorem dX9_move_61 : decode cX9_move 61 = .ok (.iaload, 1) := by decide +kernel
theorem dX9_move_62 : decode cX9_move 62 = .ok (.istore 4, 2) := by decide +kernel
theorem dX9_move_64 : decode cX9_move 64 = .ok (.aload_n 0, 1) := by decide +kernel
theorem dX9_move_65 : decode cX9_move 65 = .ok (.getfield 80, 3) := by decide +kernel
theorem dX9_move_68 : decode cX9_move 68 = .ok (.iload_n 2, 1) := by decide +kernel
theorem dX9_move_69 : decode cX9_move 69 = .ok (.iaload, 1) := by decide +kernel
theorem dX9_move_70 : decode cX9_move 70 = .ok (.iconst (-1), 1) := by decide +kernel
theorem dX9_move_71 : decode cX9_move 71 = .ok (.if_icmp .ne 69, 3) := by decide +kernel
theorem dX9_move_74 : decode cX9_move 74 = .ok (.aload_n 0, 1) := by decide +kernel
theorem dX9_move_75 : decode cX9_move 75 = .ok (.iload_n 3, 1) := by decide +kernel
theorem dX9_move_76 : decode cX9_move 76 = .ok (.iload_n 2, 1) := by decide +kernel
theorem dX9_move_77 : decode cX9_move 77 = .ok (.invokevirtual 132, 3) := by decide +kernel
theorem dX9_move_80 : decode cX9_move 80 = .ok (.ifCond .ne 60, 3) := by decide +kernel
theorem dX9_move_83 : decode cX9_move 83 = .ok (.aload_n 0, 1) := by decide +kernel
theorem dX9_move_84 : decode cX9_move 84 = .ok (.getfield 7, 3) := by decide +kernel
theorem dX9_move_87 : decode cX9_move 87 = .ok (.iconst 4, 1) := by decide +kernel
theorem dX9_move_88 : decode cX9_move 88 = .ok (.aload_n 0, 1) := by decide +kernel
theorem dX9_move_89 : decode cX9_move 89 = .ok (.getfield 19, 3) := by decide +kernel
theorem dX9_move_92 : decode cX9_move 92 = .ok (.iload_n 3, 1) := by decide +kernel
theorem dX9_move_93 : decode cX9_move 93 = .ok (.iaload, 1) := by decide +kernel
theorem dX9_move_94 : decode cX9_move 94 = .ok (.imul, 1) := by decide +kernel
theorem dX9_move_95 : decode cX9_move 95 = .ok (.iload 4, 2) := by decide +kernel
theorem dX9_move_97 : decode cX9_move 97 = .ok (.iadd, 1) := by decide +kernel
theorem dX9_move_98 : decode cX9_move 98 = .ok (.iaload, 1) := by decide +kernel
theorem dX9_move_99 : decode cX9_move 99 = .ok (.aload_n 0, 1) := by decide +kernel
theorem dX9_move_100 : decode cX9_move 100 = .ok (.getfield 19, 3) := by decide +kernel
theorem dX9_move_103 : decode cX9_move 103 = .ok (.iload_n 2, 1) := by decide +kernel
theorem dX9_move_104 : decode cX9_move 104 = .ok (.iaload, 1) := by decide +kernel
theorem dX9_move_105 : decode cX9_move 105 = .ok (.if_icmp .ne 35, 3) := by decide +kernel
theorem dX9_move_108 : decode cX9_move 108 = .ok (.aload_n 0, 1) := by decide +kernel
theorem dX9_move_109 : decode cX9_move 109 = .ok (.iload_n 3, 1) := by decide +kernel
theorem dX9_move_110 : decode cX9_move 110 = .ok (.iload 4, 2) := by decide +kernel
theorem dX9_move_112 : decode cX9_move 112 = .ok (.invokevirtual 140, 3) := by decide +kernel
theorem dX9_move_115 : decode cX9_move 115 = .ok (.iconst (-1), 1) := by decide +kernel
theorem dX9_move_116 : decode cX9_move 116 = .ok (.if_icmp .ne 24, 3) := by decide +kernel
theorem dX9_move_119 : decode cX9_move 119 = .ok (.aload_n 0, 1) := by decide +kernel
theorem dX9_move_120 : decode cX9_move 120 = .ok (.iload_n 3, 1) := by decide +kernel
theorem dX9_move_121 : decode cX9_move 121 = .ok (.invokevirtual 136, 3) := by decide +kernel
theorem dX9_move_124 : decode cX9_move 124 = .ok (.iconst 1, 1) := by decide +kernel
theorem dX9_move_125 : decode cX9_move 125 = .ok (.iadd, 1) := by decide +kernel
theorem dX9_move_126 : decode cX9_move 126 = .ok (.aload_n 0, 1) := by decide +kernel
theorem dX9_move_127 : decode cX9_move 127 = .ok (.iload_n 2, 1) := by decide +kernel
theorem dX9_move_128 : decode cX9_move 128 = .ok (.invokevirtual 144, 3) := by decide +kernel
theorem dX9_move_131 : decode cX9_move 131 = .ok (.iadd, 1) := by decide +kernel
theorem dX9_move_132 : decode cX9_move 132 = .ok (.iconst 4, 1) := by decide +kernel
theorem dX9_move_133 : decode cX9_move 133 = .ok (.if_icmp .gt 7, 3) := by decide +kernel
theorem dX9_move_136 : decode cX9_move 136 = .ok (.iconst 1, 1) := by decide +kernel
theorem dX9_move_137 : decode cX9_move 137 = .ok (.goto 4, 3) := by decide +kernel
theorem dX9_move_140 : decode cX9_move 140 = .ok (.iconst 0, 1) := by decide +kernel
theorem dX9_move_141 : decode cX9_move 141 = .ok (.istore 5, 2) := by decide +kernel
theorem dX9_move_143 : decode cX9_move 143 = .ok (.iload 5, 2) := by decide +kernel
theorem dX9_move_145 : decode cX9_move 145 = .ok (.ifCond .ne 5, 3) := by decide +kernel
theorem dX9_move_148 : decode cX9_move 148 = .ok (.iconst 0, 1) := by decide +kernel
theorem dX9_move_149 : decode cX9_move 149 = .ok (.ireturn, 1) := by decide +kernel
theorem dX9_move_150 : decode cX9_move 150 = .ok (.aload_n 0, 1) := by decide +kernel
theorem dX9_move_151 : decode cX9_move 151 = .ok (.getfield 80, 3) := by decide +kernel
theorem dX9_move_154 : decode cX9_move 154 = .ok (.iload_n 2, 1) := by decide +kernel
theorem dX9_move_155 : decode cX9_move 155 = .ok (.iload_n 3, 1) := by decide +kernel
theorem dX9_move_156 : decode cX9_move 156 = .ok (.iastore, 1) := by decide +kernel
theorem dX9_move_157 : decode cX9_move 157 = .ok (.aload_n 0, 1) := by decide +kernel
theorem dX9_move_158 : decode cX9_move 158 = .ok (.getfield 83, 3) := by decide +kernel
theorem dX9_move_161 : decode cX9_move 161 = .ok (.iload_n 2, 1) := by decide +kernel
theorem dX9_move_162 : decode cX9_move 162 = .ok (.iload 4, 2) := by decide +kernel
theorem dX9_move_164 : decode cX9_move 164 = .ok (.iastore, 1) := by decide +kernel
theorem dX9_move_165 : decode cX9_move 165 = .ok (.iconst 1, 1) := by decide +kernel
theorem dX9_move_166 : decode cX9_move 166 = .ok (.ireturn, 1) := by decide +kernel
theorem dX9_nothingHangs_0 : decode cX9_nothingHangs 0 = .ok (.iconst 0, 1) := by decide +kernel
theorem dX9_nothingHangs_1 : decode cX9_nothingHangs 1 = .ok (.istore_n 1, 1) := by decide +kernel
theorem dX9_nothingHangs_2 : decode cX9_nothingHangs 2 = .ok (.iload_n 1, 1) := by decide +kernel
theorem dX9_nothingHangs_3 : decode cX9_nothingHangs 3 = .ok (.bipush 40, 2) := by decide +kernel
theorem dX9_nothingHangs_5 : decode cX9_nothingHangs 5 = .ok (.if_icmp .ge 23, 3) := by decide +kernel
theorem dX9_nothingHangs_8 : decode cX9_nothingHangs 8 = .ok (.aload_n 0, 1) := by decide +kernel
theorem dX9_nothingHangs_9 : decode cX9_nothingHangs 9 = .ok (.getfield 80, 3) := by decide +kernel
theorem dX9_nothingHangs_12 : decode cX9_nothingHangs 12 = .ok (.iload_n 1, 1) := by decide +kernel
theorem dX9_nothingHangs_13 : decode cX9_nothingHangs 13 = .ok (.iconst (-1), 1) := by decide +kernel
theorem dX9_nothingHangs_14 : decode cX9_nothingHangs 14 = .ok (.iastore, 1) := by decide +kernel
theorem dX9_nothingHangs_15 : decode cX9_nothingHangs 15 = .ok (.aload_n 0, 1) := by decide +kernel
theorem dX9_nothingHangs_16 : decode cX9_nothingHangs 16 = .ok (.getfield 83, 3) := by decide +kernel
theorem dX9_nothingHangs_19 : decode cX9_nothingHangs 19 = .ok (.iload_n 1, 1) := by decide +kernel
theorem dX9_nothingHangs_20 : decode cX9_nothingHangs 20 = .ok (.iconst (-1), 1) := by decide +kernel
theorem dX9_nothingHangs_21 : decode cX9_nothingHangs 21 = .ok (.iastore, 1) := by decide +kernel
theorem dX9_nothingHangs_22 : decode cX9_nothingHangs 22 = .ok (.iinc 1 1, 3) := by decide +kernel
theorem dX9_nothingHangs_25 : decode cX9_nothingHangs 25 = .ok (.goto (-23), 3) := by decide +kernel
theorem dX9_nothingHangs_28 : decode cX9_nothingHangs 28 = .ok (.return_, 1) := by decide +kernel
theorem dX9_arrange_0 : decode cX9_arrange 0 = .ok (.aload_n 0, 1) := by decide +kernel
theorem dX9_arrange_1 : decode cX9_arrange 1 = .ok (.invokevirtual 147, 3) := by decide +kernel
theorem dX9_arrange_4 : decode cX9_arrange 4 = .ok (.iconst 0, 1) := by decide +kernel
theorem dX9_arrange_5 : decode cX9_arrange 5 = .ok (.istore_n 2, 1) := by decide +kernel
theorem dX9_arrange_6 : decode cX9_arrange 6 = .ok (.iload_n 2, 1) := by decide +kernel
theorem dX9_arrange_7 : decode cX9_arrange 7 = .ok (.aload_n 0, 1) := by decide +kernel
theorem dX9_arrange_8 : decode cX9_arrange 8 = .ok (.getfield 123, 3) := by decide +kernel
theorem dX9_arrange_11 : decode cX9_arrange 11 = .ok (.if_icmp .ge 41, 3) := by decide +kernel
theorem dX9_arrange_14 : decode cX9_arrange 14 = .ok (.aload_n 0, 1) := by decide +kernel
theorem dX9_arrange_15 : decode cX9_arrange 15 = .ok (.getfield 65, 3) := by decide +kernel
theorem dX9_arrange_18 : decode cX9_arrange 18 = .ok (.aload_n 0, 1) := by decide +kernel
theorem dX9_arrange_19 : decode cX9_arrange 19 = .ok (.getfield 77, 3) := by decide +kernel
theorem dX9_arrange_22 : decode cX9_arrange 22 = .ok (.iload_n 2, 1) := by decide +kernel
theorem dX9_arrange_23 : decode cX9_arrange 23 = .ok (.iaload, 1) := by decide +kernel
theorem dX9_arrange_24 : decode cX9_arrange 24 = .ok (.iaload, 1) := by decide +kernel
theorem dX9_arrange_25 : decode cX9_arrange 25 = .ok (.iload_n 1, 1) := by decide +kernel
theorem dX9_arrange_26 : decode cX9_arrange 26 = .ok (.if_icmp .le 5, 3) := by decide +kernel
theorem dX9_arrange_29 : decode cX9_arrange 29 = .ok (.iconst 1, 1) := by decide +kernel
theorem dX9_arrange_30 : decode cX9_arrange 30 = .ok (.ireturn, 1) := by decide +kernel
theorem dX9_arrange_31 : decode cX9_arrange 31 = .ok (.aload_n 0, 1) := by decide +kernel
theorem dX9_arrange_32 : decode cX9_arrange 32 = .ok (.aload_n 0, 1) := by decide +kernel
theorem dX9_arrange_33 : decode cX9_arrange 33 = .ok (.getfield 77, 3) := by decide +kernel
theorem dX9_arrange_36 : decode cX9_arrange 36 = .ok (.iload_n 2, 1) := by decide +kernel
theorem dX9_arrange_37 : decode cX9_arrange 37 = .ok (.iaload, 1) := by decide +kernel
theorem dX9_arrange_38 : decode cX9_arrange 38 = .ok (.invokevirtual 150, 3) := by decide +kernel
theorem dX9_arrange_41 : decode cX9_arrange 41 = .ok (.ifCond .ne 5, 3) := by decide +kernel
theorem dX9_arrange_44 : decode cX9_arrange 44 = .ok (.iconst 0, 1) := by decide +kernel
theorem dX9_arrange_45 : decode cX9_arrange 45 = .ok (.ireturn, 1) := by decide +kernel
theorem dX9_arrange_46 : decode cX9_arrange 46 = .ok (.iinc 2 1, 3) := by decide +kernel
theorem dX9_arrange_49 : decode cX9_arrange 49 = .ok (.goto (-43), 3) := by decide +kernel
theorem dX9_arrange_52 : decode cX9_arrange 52 = .ok (.iconst 1, 1) := by decide +kernel
theorem dX9_arrange_53 : decode cX9_arrange 53 = .ok (.ireturn, 1) := by decide +kernel
theorem dX9_machineOf_0 : decode cX9_machineOf 0 = .ok (.iload_n 1, 1) := by decide +kernel
theorem dX9_machineOf_1 : decode cX9_machineOf 1 = .ok (.istore_n 2, 1) := by decide +kernel
theorem dX9_machineOf_2 : decode cX9_machineOf 2 = .ok (.aload_n 0, 1) := by decide +kernel
theorem dX9_machineOf_3 : decode cX9_machineOf 3 = .ok (.getfield 80, 3) := by decide +kernel
theorem dX9_machineOf_6 : decode cX9_machineOf 6 = .ok (.iload_n 2, 1) := by decide +kernel
theorem dX9_machineOf_7 : decode cX9_machineOf 7 = .ok (.iaload, 1) := by decide +kernel
theorem dX9_machineOf_8 : decode cX9_machineOf 8 = .ok (.iconst (-1), 1) := by decide +kernel
theorem dX9_machineOf_9 : decode cX9_machineOf 9 = .ok (.if_icmp .eq 13, 3) := by decide +kernel
theorem dX9_machineOf_12 : decode cX9_machineOf 12 = .ok (.aload_n 0, 1) := by decide +kernel
theorem dX9_machineOf_13 : decode cX9_machineOf 13 = .ok (.getfield 80, 3) := by decide +kernel
theorem dX9_machineOf_16 : decode cX9_machineOf 16 = .ok (.iload_n 2, 1) := by decide +kernel
theorem dX9_machineOf_17 : decode cX9_machineOf 17 = .ok (.iaload, 1) := by decide +kernel
theorem dX9_machineOf_18 : decode cX9_machineOf 18 = .ok (.istore_n 2, 1) := by decide +kernel
theorem dX9_machineOf_19 : decode cX9_machineOf 19 = .ok (.goto (-17), 3) := by decide +kernel
theorem dX9_machineOf_22 : decode cX9_machineOf 22 = .ok (.aload_n 0, 1) := by decide +kernel
theorem dX9_machineOf_23 : decode cX9_machineOf 23 = .ok (.iload_n 2, 1) := by decide +kernel
theorem dX9_machineOf_24 : decode cX9_machineOf 24 = .ok (.invokevirtual 153, 3) := by decide +kernel
theorem dX9_machineOf_27 : decode cX9_machineOf 27 = .ok (.ifCond .eq 7, 3) := by decide +kernel
theorem dX9_machineOf_30 : decode cX9_machineOf 30 = .ok (.iload_n 2, 1) := by decide +kernel
theorem dX9_machineOf_31 : decode cX9_machineOf 31 = .ok (.goto 4, 3) := by decide +kernel
theorem dX9_machineOf_34 : decode cX9_machineOf 34 = .ok (.iconst (-1), 1) := by decide +kernel
theorem dX9_machineOf_35 : decode cX9_machineOf 35 = .ok (.ireturn, 1) := by decide +kernel
theorem dX9_record_0 : decode cX9_record 0 = .ok (.iconst 0, 1) := by decide +kernel
theorem dX9_record_1 : decode cX9_record 1 = .ok (.istore_n 3, 1) := by decide +kernel
theorem dX9_record_2 : decode cX9_record 2 = .ok (.iload_n 3, 1) := by decide +kernel
theorem dX9_record_3 : decode cX9_record 3 = .ok (.aload_n 0, 1) := by decide +kernel
theorem dX9_record_4 : decode cX9_record 4 = .ok (.getfield 126, 3) := by decide +kernel
theorem dX9_record_7 : decode cX9_record 7 = .ok (.if_icmp .ge 99, 3) := by decide +kernel
theorem dX9_record_10 : decode cX9_record 10 = .ok (.aload_n 0, 1) := by decide +kernel
theorem dX9_record_11 : decode cX9_record 11 = .ok (.getfield 58, 3) := by decide +kernel
theorem dX9_record_14 : decode cX9_record 14 = .ok (.iload_n 3, 1) := by decide +kernel
theorem dX9_record_15 : decode cX9_record 15 = .ok (.baload, 1) := by decide +kernel
theorem dX9_record_16 : decode cX9_record 16 = .ok (.ifCond .eq 84, 3) := by decide +kernel
theorem dX9_record_19 : decode cX9_record 19 = .ok (.aload_n 0, 1) := by decide +kernel
theorem dX9_record_20 : decode cX9_record 20 = .ok (.getfield 55, 3) := by decide +kernel
theorem dX9_record_23 : decode cX9_record 23 = .ok (.iload_n 3, 1) := by decide +kernel
theorem dX9_record_24 : decode cX9_record 24 = .ok (.iaload, 1) := by decide +kernel
theorem dX9_record_25 : decode cX9_record 25 = .ok (.ifCond .ne 75, 3) := by decide +kernel
theorem dX9_record_28 : decode cX9_record 28 = .ok (.aload_n 0, 1) := by decide +kernel
theorem dX9_record_29 : decode cX9_record 29 = .ok (.getfield 65, 3) := by decide +kernel
theorem dX9_record_32 : decode cX9_record 32 = .ok (.iload_n 3, 1) := by decide +kernel
theorem dX9_record_33 : decode cX9_record 33 = .ok (.iaload, 1) := by decide +kernel
theorem dX9_record_34 : decode cX9_record 34 = .ok (.iload_n 1, 1) := by decide +kernel
theorem dX9_record_35 : decode cX9_record 35 = .ok (.if_icmp .lt 65, 3) := by decide +kernel
theorem dX9_record_38 : decode cX9_record 38 = .ok (.aload_n 0, 1) := by decide +kernel
theorem dX9_record_39 : decode cX9_record 39 = .ok (.getfield 65, 3) := by decide +kernel
theorem dX9_record_42 : decode cX9_record 42 = .ok (.iload_n 3, 1) := by decide +kernel
theorem dX9_record_43 : decode cX9_record 43 = .ok (.iaload, 1) := by decide +kernel
theorem dX9_record_44 : decode cX9_record 44 = .ok (.iload_n 2, 1) := by decide +kernel
theorem dX9_record_45 : decode cX9_record 45 = .ok (.if_icmp .lt 6, 3) := by decide +kernel
theorem dX9_record_48 : decode cX9_record 48 = .ok (.goto 52, 3) := by decide +kernel
theorem dX9_record_51 : decode cX9_record 51 = .ok (.iconst 0, 1) := by decide +kernel
theorem dX9_record_52 : decode cX9_record 52 = .ok (.istore 4, 2) := by decide +kernel
theorem dX9_record_54 : decode cX9_record 54 = .ok (.iload 4, 2) := by decide +kernel
theorem dX9_record_56 : decode cX9_record 56 = .ok (.bipush 40, 2) := by decide +kernel
theorem dX9_record_58 : decode cX9_record 58 = .ok (.if_icmp .ge 42, 3) := by decide +kernel
theorem dX9_record_61 : decode cX9_record 61 = .ok (.aload_n 0, 1) := by decide +kernel
theorem dX9_record_62 : decode cX9_record 62 = .ok (.getfield 86, 3) := by decide +kernel
theorem dX9_record_65 : decode cX9_record 65 = .ok (.bipush 40, 2) := by decide +kernel
theorem dX9_record_67 : decode cX9_record 67 = .ok (.iload_n 3, 1) := by decide +kernel
theorem dX9_record_68 : decode cX9_record 68 = .ok (.imul, 1) := by decide +kernel
theorem dX9_record_69 : decode cX9_record 69 = .ok (.iload 4, 2) := by decide +kernel
theorem dX9_record_71 : decode cX9_record 71 = .ok (.iadd, 1) := by decide +kernel
theorem dX9_record_72 : decode cX9_record 72 = .ok (.aload_n 0, 1) := by decide +kernel
theorem dX9_record_73 : decode cX9_record 73 = .ok (.getfield 19, 3) := by decide +kernel
theorem dX9_record_76 : decode cX9_record 76 = .ok (.iload 4, 2) := by decide +kernel
theorem dX9_record_78 : decode cX9_record 78 = .ok (.iaload, 1) := by decide +kernel
theorem dX9_record_79 : decode cX9_record 79 = .ok (.iconst (-1), 1) := by decide +kernel
theorem dX9_record_80 : decode cX9_record 80 = .ok (.if_icmp .ne 7, 3) := by decide +kernel
theorem dX9_record_83 : decode cX9_record 83 = .ok (.iconst (-1), 1) := by decide +kernel
theorem dX9_record_84 : decode cX9_record 84 = .ok (.goto 9, 3) := by decide +kernel
theorem dX9_record_87 : decode cX9_record 87 = .ok (.aload_n 0, 1) := by decide +kernel
theorem dX9_record_88 : decode cX9_record 88 = .ok (.iload 4, 2) := by decide +kernel
theorem dX9_record_90 : decode cX9_record 90 = .ok (.invokevirtual 156, 3) := by decide +kernel
theorem dX9_record_93 : decode cX9_record 93 = .ok (.iastore, 1) := by decide +kernel
theorem dX9_record_94 : decode cX9_record 94 = .ok (.iinc 4 1, 3) := by decide +kernel
theorem dX9_record_97 : decode cX9_record 97 = .ok (.goto (-43), 3) := by decide +kernel
theorem dX9_record_100 : decode cX9_record 100 = .ok (.iinc 3 1, 3) := by decide +kernel
theorem dX9_record_103 : decode cX9_record 103 = .ok (.goto (-101), 3) := by decide +kernel
theorem dX9_record_106 : decode cX9_record 106 = .ok (.return_, 1) := by decide +kernel
theorem dX9_check_0 : decode cX9_check 0 = .ok (.aload_n 0, 1) := by decide +kernel
theorem dX9_check_1 : decode cX9_check 1 = .ok (.invokevirtual 159, 3) := by decide +kernel
theorem dX9_check_4 : decode cX9_check 4 = .ok (.aload_n 0, 1) := by decide +kernel
theorem dX9_check_5 : decode cX9_check 5 = .ok (.invokevirtual 147, 3) := by decide +kernel
theorem dX9_check_8 : decode cX9_check 8 = .ok (.iconst 0, 1) := by decide +kernel
theorem dX9_check_9 : decode cX9_check 9 = .ok (.istore_n 1, 1) := by decide +kernel
theorem dX9_check_10 : decode cX9_check 10 = .ok (.iconst 0, 1) := by decide +kernel
theorem dX9_check_11 : decode cX9_check 11 = .ok (.istore_n 2, 1) := by decide +kernel
theorem dX9_check_12 : decode cX9_check 12 = .ok (.iload_n 2, 1) := by decide +kernel
theorem dX9_check_13 : decode cX9_check 13 = .ok (.aload_n 0, 1) := by decide +kernel
theorem dX9_check_14 : decode cX9_check 14 = .ok (.getfield 123, 3) := by decide +kernel
theorem dX9_check_17 : decode cX9_check 17 = .ok (.if_icmp .ge 52, 3) := by decide +kernel
theorem dX9_check_20 : decode cX9_check 20 = .ok (.aload_n 0, 1) := by decide +kernel
theorem dX9_check_21 : decode cX9_check 21 = .ok (.iload_n 1, 1) := by decide +kernel
theorem dX9_check_22 : decode cX9_check 22 = .ok (.aload_n 0, 1) := by decide +kernel
theorem dX9_check_23 : decode cX9_check 23 = .ok (.getfield 65, 3) := by decide +kernel
theorem dX9_check_26 : decode cX9_check 26 = .ok (.aload_n 0, 1) := by decide +kernel
theorem dX9_check_27 : decode cX9_check 27 = .ok (.getfield 77, 3) := by decide +kernel
theorem dX9_check_30 : decode cX9_check 30 = .ok (.iload_n 2, 1) := by decide +kernel
theorem dX9_check_31 : decode cX9_check 31 = .ok (.iaload, 1) := by decide +kernel
theorem dX9_check_32 : decode cX9_check 32 = .ok (.iaload, 1) := by decide +kernel
theorem dX9_check_33 : decode cX9_check 33 = .ok (.invokevirtual 162, 3) := by decide +kernel
theorem dX9_check_36 : decode cX9_check 36 = .ok (.aload_n 0, 1) := by decide +kernel
theorem dX9_check_37 : decode cX9_check 37 = .ok (.getfield 65, 3) := by decide +kernel
theorem dX9_check_40 : decode cX9_check 40 = .ok (.aload_n 0, 1) := by decide +kernel
theorem dX9_check_41 : decode cX9_check 41 = .ok (.getfield 77, 3) := by decide +kernel
theorem dX9_check_44 : decode cX9_check 44 = .ok (.iload_n 2, 1) := by decide +kernel
theorem dX9_check_45 : decode cX9_check 45 = .ok (.iaload, 1) := by decide +kernel
theorem dX9_check_46 : decode cX9_check 46 = .ok (.iaload, 1) := by decide +kernel
theorem dX9_check_47 : decode cX9_check 47 = .ok (.istore_n 1, 1) := by decide +kernel
theorem dX9_check_48 : decode cX9_check 48 = .ok (.aload_n 0, 1) := by decide +kernel
theorem dX9_check_49 : decode cX9_check 49 = .ok (.aload_n 0, 1) := by decide +kernel
theorem dX9_check_50 : decode cX9_check 50 = .ok (.getfield 77, 3) := by decide +kernel
theorem dX9_check_53 : decode cX9_check 53 = .ok (.iload_n 2, 1) := by decide +kernel
theorem dX9_check_54 : decode cX9_check 54 = .ok (.iaload, 1) := by decide +kernel
theorem dX9_check_55 : decode cX9_check 55 = .ok (.invokevirtual 150, 3) := by decide +kernel
theorem dX9_check_58 : decode cX9_check 58 = .ok (.ifCond .ne 5, 3) := by decide +kernel
theorem dX9_check_61 : decode cX9_check 61 = .ok (.iconst 0, 1) := by decide +kernel
theorem dX9_check_62 : decode cX9_check 62 = .ok (.ireturn, 1) := by decide +kernel
theorem dX9_check_63 : decode cX9_check 63 = .ok (.iinc 2 1, 3) := by decide +kernel
theorem dX9_check_66 : decode cX9_check 66 = .ok (.goto (-54), 3) := by decide +kernel
theorem dX9_check_69 : decode cX9_check 69 = .ok (.aload_n 0, 1) := by decide +kernel
theorem dX9_check_70 : decode cX9_check 70 = .ok (.iload_n 1, 1) := by decide +kernel
theorem dX9_check_71 : decode cX9_check 71 = .ok (.ldc 166, 2) := by decide +kernel
theorem dX9_check_73 : decode cX9_check 73 = .ok (.invokevirtual 162, 3) := by decide +kernel
theorem dX9_check_76 : decode cX9_check 76 = .ok (.iconst 1, 1) := by decide +kernel
theorem dX9_check_77 : decode cX9_check 77 = .ok (.ireturn, 1) := by decide +kernel
theorem dX9_enter_0 : decode cX9_enter 0 = .ok (.aload_n 0, 1) := by decide +kernel
theorem dX9_enter_1 : decode cX9_enter 1 = .ok (.getfield 55, 3) := by decide +kernel
theorem dX9_enter_4 : decode cX9_enter 4 = .ok (.aload_n 0, 1) := by decide +kernel
theorem dX9_enter_5 : decode cX9_enter 5 = .ok (.getfield 126, 3) := by decide +kernel
theorem dX9_enter_8 : decode cX9_enter 8 = .ok (.iload_n 1, 1) := by decide +kernel
theorem dX9_enter_9 : decode cX9_enter 9 = .ok (.iastore, 1) := by decide +kernel
theorem dX9_enter_10 : decode cX9_enter 10 = .ok (.aload_n 0, 1) := by decide +kernel
theorem dX9_enter_11 : decode cX9_enter 11 = .ok (.getfield 58, 3) := by decide +kernel
theorem dX9_enter_14 : decode cX9_enter 14 = .ok (.aload_n 0, 1) := by decide +kernel
theorem dX9_enter_15 : decode cX9_enter 15 = .ok (.getfield 126, 3) := by decide +kernel
theorem dX9_enter_18 : decode cX9_enter 18 = .ok (.iconst 1, 1) := by decide +kernel
theorem dX9_enter_19 : decode cX9_enter 19 = .ok (.bastore, 1) := by decide +kernel
theorem dX9_enter_20 : decode cX9_enter 20 = .ok (.aload_n 0, 1) := by decide +kernel
theorem dX9_enter_21 : decode cX9_enter 21 = .ok (.getfield 62, 3) := by decide +kernel
theorem dX9_enter_24 : decode cX9_enter 24 = .ok (.aload_n 0, 1) := by decide +kernel
theorem dX9_enter_25 : decode cX9_enter 25 = .ok (.getfield 126, 3) := by decide +kernel
theorem dX9_enter_28 : decode cX9_enter 28 = .ok (.iload_n 2, 1) := by decide +kernel
theorem dX9_enter_29 : decode cX9_enter 29 = .ok (.iastore, 1) := by decide +kernel
theorem dX9_enter_30 : decode cX9_enter 30 = .ok (.aload_n 0, 1) := by decide +kernel
theorem dX9_enter_31 : decode cX9_enter 31 = .ok (.getfield 65, 3) := by decide +kernel
theorem dX9_enter_34 : decode cX9_enter 34 = .ok (.aload_n 0, 1) := by decide +kernel
theorem dX9_enter_35 : decode cX9_enter 35 = .ok (.getfield 126, 3) := by decide +kernel
theorem dX9_enter_38 : decode cX9_enter 38 = .ok (.iload_n 3, 1) := by decide +kernel
theorem dX9_enter_39 : decode cX9_enter 39 = .ok (.iastore, 1) := by decide +kernel
theorem dX9_enter_40 : decode cX9_enter 40 = .ok (.aload_n 0, 1) := by decide +kernel
theorem dX9_enter_41 : decode cX9_enter 41 = .ok (.getfield 68, 3) := by decide +kernel
theorem dX9_enter_44 : decode cX9_enter 44 = .ok (.aload_n 0, 1) := by decide +kernel
theorem dX9_enter_45 : decode cX9_enter 45 = .ok (.getfield 126, 3) := by decide +kernel
theorem dX9_enter_48 : decode cX9_enter 48 = .ok (.iload 4, 2) := by decide +kernel
theorem dX9_enter_50 : decode cX9_enter 50 = .ok (.iastore, 1) := by decide +kernel
theorem dX9_enter_51 : decode cX9_enter 51 = .ok (.aload_n 0, 1) := by decide +kernel
theorem dX9_enter_52 : decode cX9_enter 52 = .ok (.getfield 71, 3) := by decide +kernel
theorem dX9_enter_55 : decode cX9_enter 55 = .ok (.aload_n 0, 1) := by decide +kernel
theorem dX9_enter_56 : decode cX9_enter 56 = .ok (.getfield 126, 3) := by decide +kernel
theorem dX9_enter_59 : decode cX9_enter 59 = .ok (.iload 5, 2) := by decide +kernel
theorem dX9_enter_61 : decode cX9_enter 61 = .ok (.iastore, 1) := by decide +kernel
theorem dX9_enter_62 : decode cX9_enter 62 = .ok (.aload_n 0, 1) := by decide +kernel
theorem dX9_enter_63 : decode cX9_enter 63 = .ok (.getfield 74, 3) := by decide +kernel
theorem dX9_enter_66 : decode cX9_enter 66 = .ok (.aload_n 0, 1) := by decide +kernel
theorem dX9_enter_67 : decode cX9_enter 67 = .ok (.getfield 126, 3) := by decide +kernel
theorem dX9_enter_70 : decode cX9_enter 70 = .ok (.iload 6, 2) := by decide +kernel
theorem dX9_enter_72 : decode cX9_enter 72 = .ok (.iastore, 1) := by decide +kernel
theorem dX9_enter_73 : decode cX9_enter 73 = .ok (.aload_n 0, 1) := by decide +kernel
theorem dX9_enter_74 : decode cX9_enter 74 = .ok (.dup, 1) := by decide +kernel
theorem dX9_enter_75 : decode cX9_enter 75 = .ok (.getfield 126, 3) := by decide +kernel
theorem dX9_enter_78 : decode cX9_enter 78 = .ok (.iconst 1, 1) := by decide +kernel
theorem dX9_enter_79 : decode cX9_enter 79 = .ok (.iadd, 1) := by decide +kernel
theorem dX9_enter_80 : decode cX9_enter 80 = .ok (.putfield 126, 3) := by decide +kernel
theorem dX9_enter_83 : decode cX9_enter 83 = .ok (.aload_n 0, 1) := by decide +kernel
theorem dX9_enter_84 : decode cX9_enter 84 = .ok (.dup, 1) := by decide +kernel
theorem dX9_enter_85 : decode cX9_enter 85 = .ok (.getfield 167, 3) := by decide +kernel
theorem dX9_enter_88 : decode cX9_enter 88 = .ok (.iconst 1, 1) := by decide +kernel
theorem dX9_enter_89 : decode cX9_enter 89 = .ok (.iadd, 1) := by decide +kernel
theorem dX9_enter_90 : decode cX9_enter 90 = .ok (.putfield 167, 3) := by decide +kernel
theorem dX9_enter_93 : decode cX9_enter 93 = .ok (.aload_n 0, 1) := by decide +kernel
theorem dX9_enter_94 : decode cX9_enter 94 = .ok (.getfield 126, 3) := by decide +kernel
theorem dX9_enter_97 : decode cX9_enter 97 = .ok (.iconst 1, 1) := by decide +kernel
theorem dX9_enter_98 : decode cX9_enter 98 = .ok (.isub, 1) := by decide +kernel
theorem dX9_enter_99 : decode cX9_enter 99 = .ok (.ireturn, 1) := by decide +kernel
theorem dX9_note_0 : decode cX9_note 0 = .ok (.aload_n 0, 1) := by decide +kernel
theorem dX9_note_1 : decode cX9_note 1 = .ok (.iload_n 1, 1) := by decide +kernel
theorem dX9_note_2 : decode cX9_note 2 = .ok (.ifCond .ne 7, 3) := by decide +kernel
theorem dX9_note_5 : decode cX9_note 5 = .ok (.iconst 1, 1) := by decide +kernel
theorem dX9_note_6 : decode cX9_note 6 = .ok (.goto 18, 3) := by decide +kernel
theorem dX9_note_9 : decode cX9_note 9 = .ok (.aload_n 0, 1) := by decide +kernel
theorem dX9_note_10 : decode cX9_note 10 = .ok (.getfield 126, 3) := by decide +kernel
theorem dX9_note_13 : decode cX9_note 13 = .ok (.sipush 200, 3) := by decide +kernel
theorem dX9_note_16 : decode cX9_note 16 = .ok (.if_icmp .ne 7, 3) := by decide +kernel
theorem dX9_note_19 : decode cX9_note 19 = .ok (.iconst 2, 1) := by decide +kernel
theorem dX9_note_20 : decode cX9_note 20 = .ok (.goto 4, 3) := by decide +kernel
theorem dX9_note_23 : decode cX9_note 23 = .ok (.iconst 0, 1) := by decide +kernel
theorem dX9_note_24 : decode cX9_note 24 = .ok (.putfield 95, 3) := by decide +kernel
theorem dX9_note_27 : decode cX9_note 27 = .ok (.aload_n 0, 1) := by decide +kernel
theorem dX9_note_28 : decode cX9_note 28 = .ok (.getfield 95, 3) := by decide +kernel
theorem dX9_note_31 : decode cX9_note 31 = .ok (.ifCond .eq 7, 3) := by decide +kernel
theorem dX9_note_34 : decode cX9_note 34 = .ok (.iconst 0, 1) := by decide +kernel
theorem dX9_note_35 : decode cX9_note 35 = .ok (.goto 17, 3) := by decide +kernel
theorem dX9_note_38 : decode cX9_note 38 = .ok (.aload_n 0, 1) := by decide +kernel
theorem dX9_note_39 : decode cX9_note 39 = .ok (.iload_n 2, 1) := by decide +kernel
theorem dX9_note_40 : decode cX9_note 40 = .ok (.iload_n 3, 1) := by decide +kernel
theorem dX9_note_41 : decode cX9_note 41 = .ok (.iload 4, 2) := by decide +kernel
theorem dX9_note_43 : decode cX9_note 43 = .ok (.iload 5, 2) := by decide +kernel
theorem dX9_note_45 : decode cX9_note 45 = .ok (.iload 6, 2) := by decide +kernel
theorem dX9_note_47 : decode cX9_note 47 = .ok (.iload 7, 2) := by decide +kernel
theorem dX9_note_49 : decode cX9_note 49 = .ok (.invokevirtual 170, 3) := by decide +kernel
theorem dX9_note_52 : decode cX9_note 52 = .ok (.ireturn, 1) := by decide +kernel
theorem dX9_tryMove_0 : decode cX9_tryMove 0 = .ok (.aload_n 0, 1) := by decide +kernel
theorem dX9_tryMove_1 : decode cX9_tryMove 1 = .ok (.iload_n 1, 1) := by decide +kernel
theorem dX9_tryMove_2 : decode cX9_tryMove 2 = .ok (.ifCond .ne 7, 3) := by decide +kernel
theorem dX9_tryMove_5 : decode cX9_tryMove 5 = .ok (.iconst 1, 1) := by decide +kernel
theorem dX9_tryMove_6 : decode cX9_tryMove 6 = .ok (.goto 18, 3) := by decide +kernel
theorem dX9_tryMove_9 : decode cX9_tryMove 9 = .ok (.aload_n 0, 1) := by decide +kernel
theorem dX9_tryMove_10 : decode cX9_tryMove 10 = .ok (.getfield 126, 3) := by decide +kernel
theorem dX9_tryMove_13 : decode cX9_tryMove 13 = .ok (.sipush 200, 3) := by decide +kernel
theorem dX9_tryMove_16 : decode cX9_tryMove 16 = .ok (.if_icmp .ne 7, 3) := by decide +kernel
theorem dX9_tryMove_19 : decode cX9_tryMove 19 = .ok (.iconst 2, 1) := by decide +kernel
theorem dX9_tryMove_20 : decode cX9_tryMove 20 = .ok (.goto 4, 3) := by decide +kernel
theorem dX9_tryMove_23 : decode cX9_tryMove 23 = .ok (.iconst 0, 1) := by decide +kernel
theorem dX9_tryMove_24 : decode cX9_tryMove 24 = .ok (.putfield 95, 3) := by decide +kernel
theorem dX9_tryMove_27 : decode cX9_tryMove 27 = .ok (.iconst 0, 1) := by decide +kernel
theorem dX9_tryMove_28 : decode cX9_tryMove 28 = .ok (.istore 7, 2) := by decide +kernel
theorem dX9_tryMove_30 : decode cX9_tryMove 30 = .ok (.iload 7, 2) := by decide +kernel
theorem dX9_tryMove_32 : decode cX9_tryMove 32 = .ok (.aload_n 0, 1) := by decide +kernel
theorem dX9_tryMove_33 : decode cX9_tryMove 33 = .ok (.getfield 126, 3) := by decide +kernel
theorem dX9_tryMove_36 : decode cX9_tryMove 36 = .ok (.if_icmp .ge 46, 3) := by decide +kernel
theorem dX9_tryMove_39 : decode cX9_tryMove 39 = .ok (.aload_n 0, 1) := by decide +kernel
theorem dX9_tryMove_40 : decode cX9_tryMove 40 = .ok (.getfield 95, 3) := by decide +kernel
theorem dX9_tryMove_43 : decode cX9_tryMove 43 = .ok (.ifCond .ne 39, 3) := by decide +kernel
theorem dX9_tryMove_46 : decode cX9_tryMove 46 = .ok (.aload_n 0, 1) := by decide +kernel
theorem dX9_tryMove_47 : decode cX9_tryMove 47 = .ok (.aload_n 0, 1) := by decide +kernel
theorem dX9_tryMove_48 : decode cX9_tryMove 48 = .ok (.iload 7, 2) := by decide +kernel
theorem dX9_tryMove_50 : decode cX9_tryMove 50 = .ok (.invokevirtual 129, 3) := by decide +kernel
theorem dX9_tryMove_53 : decode cX9_tryMove 53 = .ok (.ifCond .eq 19, 3) := by decide +kernel
theorem dX9_tryMove_56 : decode cX9_tryMove 56 = .ok (.aload_n 0, 1) := by decide +kernel
theorem dX9_tryMove_57 : decode cX9_tryMove 57 = .ok (.getfield 65, 3) := by decide +kernel
theorem dX9_tryMove_60 : decode cX9_tryMove 60 = .ok (.iload 7, 2) := by decide +kernel
theorem dX9_tryMove_62 : decode cX9_tryMove 62 = .ok (.iaload, 1) := by decide +kernel
theorem dX9_tryMove_63 : decode cX9_tryMove 63 = .ok (.iload 4, 2) := by decide +kernel
theorem dX9_tryMove_65 : decode cX9_tryMove 65 = .ok (.if_icmp .ne 7, 3) := by decide +kernel
theorem dX9_tryMove_68 : decode cX9_tryMove 68 = .ok (.iconst 2, 1) := by decide +kernel
theorem dX9_tryMove_69 : decode cX9_tryMove 69 = .ok (.goto 4, 3) := by decide +kernel
theorem dX9_tryMove_72 : decode cX9_tryMove 72 = .ok (.iconst 0, 1) := by decide +kernel
theorem dX9_tryMove_73 : decode cX9_tryMove 73 = .ok (.putfield 95, 3) := by decide +kernel
theorem dX9_tryMove_76 : decode cX9_tryMove 76 = .ok (.iinc 7 1, 3) := by decide +kernel
theorem dX9_tryMove_79 : decode cX9_tryMove 79 = .ok (.goto (-49), 3) := by decide +kernel
theorem dX9_tryMove_82 : decode cX9_tryMove 82 = .ok (.aload_n 0, 1) := by decide +kernel
theorem dX9_tryMove_83 : decode cX9_tryMove 83 = .ok (.getfield 95, 3) := by decide +kernel
theorem dX9_tryMove_86 : decode cX9_tryMove 86 = .ok (.ifCond .eq 5, 3) := by decide +kernel
theorem dX9_tryMove_89 : decode cX9_tryMove 89 = .ok (.iconst 0, 1) := by decide +kernel
theorem dX9_tryMove_90 : decode cX9_tryMove 90 = .ok (.ireturn, 1) := by decide +kernel
theorem dX9_tryMove_91 : decode cX9_tryMove 91 = .ok (.aload_n 0, 1) := by decide +kernel
theorem dX9_tryMove_92 : decode cX9_tryMove 92 = .ok (.iload_n 2, 1) := by decide +kernel
theorem dX9_tryMove_93 : decode cX9_tryMove 93 = .ok (.iload_n 3, 1) := by decide +kernel
theorem dX9_tryMove_94 : decode cX9_tryMove 94 = .ok (.iload 4, 2) := by decide +kernel
theorem dX9_tryMove_96 : decode cX9_tryMove 96 = .ok (.iload 5, 2) := by decide +kernel
theorem dX9_tryMove_98 : decode cX9_tryMove 98 = .ok (.iload 6, 2) := by decide +kernel
theorem dX9_tryMove_100 : decode cX9_tryMove 100 = .ok (.iconst 0, 1) := by decide +kernel
theorem dX9_tryMove_101 : decode cX9_tryMove 101 = .ok (.invokevirtual 170, 3) := by decide +kernel
theorem dX9_tryMove_104 : decode cX9_tryMove 104 = .ok (.istore 7, 2) := by decide +kernel
theorem dX9_tryMove_106 : decode cX9_tryMove 106 = .ok (.aload_n 0, 1) := by decide +kernel
theorem dX9_tryMove_107 : decode cX9_tryMove 107 = .ok (.invokevirtual 174, 3) := by decide +kernel
theorem dX9_tryMove_110 : decode cX9_tryMove 110 = .ok (.ifCond .eq 6, 3) := by decide +kernel
theorem dX9_tryMove_113 : decode cX9_tryMove 113 = .ok (.iload 7, 2) := by decide +kernel
theorem dX9_tryMove_115 : decode cX9_tryMove 115 = .ok (.ireturn, 1) := by decide +kernel
theorem dX9_tryMove_116 : decode cX9_tryMove 116 = .ok (.aload_n 0, 1) := by decide +kernel
theorem dX9_tryMove_117 : decode cX9_tryMove 117 = .ok (.dup, 1) := by decide +kernel
theorem dX9_tryMove_118 : decode cX9_tryMove 118 = .ok (.getfield 126, 3) := by decide +kernel
theorem dX9_tryMove_121 : decode cX9_tryMove 121 = .ok (.iconst 1, 1) := by decide +kernel
theorem dX9_tryMove_122 : decode cX9_tryMove 122 = .ok (.isub, 1) := by decide +kernel
theorem dX9_tryMove_123 : decode cX9_tryMove 123 = .ok (.putfield 126, 3) := by decide +kernel
theorem dX9_tryMove_126 : decode cX9_tryMove 126 = .ok (.aload_n 0, 1) := by decide +kernel
theorem dX9_tryMove_127 : decode cX9_tryMove 127 = .ok (.dup, 1) := by decide +kernel
theorem dX9_tryMove_128 : decode cX9_tryMove 128 = .ok (.getfield 167, 3) := by decide +kernel
theorem dX9_tryMove_131 : decode cX9_tryMove 131 = .ok (.iconst 1, 1) := by decide +kernel
theorem dX9_tryMove_132 : decode cX9_tryMove 132 = .ok (.isub, 1) := by decide +kernel
theorem dX9_tryMove_133 : decode cX9_tryMove 133 = .ok (.putfield 167, 3) := by decide +kernel
theorem dX9_tryMove_136 : decode cX9_tryMove 136 = .ok (.aload_n 0, 1) := by decide +kernel
theorem dX9_tryMove_137 : decode cX9_tryMove 137 = .ok (.getfield 58, 3) := by decide +kernel
theorem dX9_tryMove_140 : decode cX9_tryMove 140 = .ok (.iload 7, 2) := by decide +kernel
theorem dX9_tryMove_142 : decode cX9_tryMove 142 = .ok (.iconst 0, 1) := by decide +kernel
theorem dX9_tryMove_143 : decode cX9_tryMove 143 = .ok (.bastore, 1) := by decide +kernel
theorem dX9_tryMove_144 : decode cX9_tryMove 144 = .ok (.aload_n 0, 1) := by decide +kernel
theorem dX9_tryMove_145 : decode cX9_tryMove 145 = .ok (.invokevirtual 174, 3) := by decide +kernel
theorem dX9_tryMove_148 : decode cX9_tryMove 148 = .ok (.istore 8, 2) := by decide +kernel
theorem dX9_tryMove_150 : decode cX9_tryMove 150 = .ok (.aload_n 0, 1) := by decide +kernel
theorem dX9_tryMove_151 : decode cX9_tryMove 151 = .ok (.iconst 2, 1) := by decide +kernel
theorem dX9_tryMove_152 : decode cX9_tryMove 152 = .ok (.putfield 95, 3) := by decide +kernel
theorem dX9_tryMove_155 : decode cX9_tryMove 155 = .ok (.iconst 0, 1) := by decide +kernel
theorem dX9_tryMove_156 : decode cX9_tryMove 156 = .ok (.ireturn, 1) := by decide +kernel
theorem dX9_flight_0 : decode cX9_flight 0 = .ok (.aload_n 0, 1) := by decide +kernel
theorem dX9_flight_1 : decode cX9_flight 1 = .ok (.aload_n 0, 1) := by decide +kernel
theorem dX9_flight_2 : decode cX9_flight 2 = .ok (.iload_n 1, 1) := by decide +kernel
theorem dX9_flight_3 : decode cX9_flight 3 = .ok (.invokevirtual 153, 3) := by decide +kernel
theorem dX9_flight_6 : decode cX9_flight 6 = .ok (.ifCond .eq 35, 3) := by decide +kernel
theorem dX9_flight_9 : decode cX9_flight 9 = .ok (.iload_n 2, 1) := by decide +kernel
theorem dX9_flight_10 : decode cX9_flight 10 = .ok (.invokestatic 178, 3) := by decide +kernel
theorem dX9_flight_13 : decode cX9_flight 13 = .ok (.ifCond .eq 28, 3) := by decide +kernel
theorem dX9_flight_16 : decode cX9_flight 16 = .ok (.iload_n 3, 1) := by decide +kernel
theorem dX9_flight_17 : decode cX9_flight 17 = .ok (.iconst 0, 1) := by decide +kernel
theorem dX9_flight_18 : decode cX9_flight 18 = .ok (.ldc 118, 2) := by decide +kernel
theorem dX9_flight_20 : decode cX9_flight 20 = .ok (.invokestatic 99, 3) := by decide +kernel
theorem dX9_flight_23 : decode cX9_flight 23 = .ok (.ifCond .eq 18, 3) := by decide +kernel
theorem dX9_flight_26 : decode cX9_flight 26 = .ok (.iload 4, 2) := by decide +kernel
theorem dX9_flight_28 : decode cX9_flight 28 = .ok (.iconst 0, 1) := by decide +kernel
theorem dX9_flight_29 : decode cX9_flight 29 = .ok (.ldc 118, 2) := by decide +kernel
theorem dX9_flight_31 : decode cX9_flight 31 = .ok (.invokestatic 99, 3) := by decide +kernel
theorem dX9_flight_34 : decode cX9_flight 34 = .ok (.ifCond .eq 7, 3) := by decide +kernel
theorem dX9_flight_37 : decode cX9_flight 37 = .ok (.iconst 1, 1) := by decide +kernel
theorem dX9_flight_38 : decode cX9_flight 38 = .ok (.goto 4, 3) := by decide +kernel
theorem dX9_flight_41 : decode cX9_flight 41 = .ok (.iconst 0, 1) := by decide +kernel
theorem dX9_flight_42 : decode cX9_flight 42 = .ok (.iconst 0, 1) := by decide +kernel
theorem dX9_flight_43 : decode cX9_flight 43 = .ok (.iload_n 1, 1) := by decide +kernel
theorem dX9_flight_44 : decode cX9_flight 44 = .ok (.iload_n 2, 1) := by decide +kernel
theorem dX9_flight_45 : decode cX9_flight 45 = .ok (.iload_n 3, 1) := by decide +kernel
theorem dX9_flight_46 : decode cX9_flight 46 = .ok (.iload 4, 2) := by decide +kernel
theorem dX9_flight_48 : decode cX9_flight 48 = .ok (.iconst 0, 1) := by decide +kernel
theorem dX9_flight_49 : decode cX9_flight 49 = .ok (.invokevirtual 181, 3) := by decide +kernel
theorem dX9_flight_52 : decode cX9_flight 52 = .ok (.istore 5, 2) := by decide +kernel
theorem dX9_flight_54 : decode cX9_flight 54 = .ok (.aload_n 0, 1) := by decide +kernel
theorem dX9_flight_55 : decode cX9_flight 55 = .ok (.getfield 95, 3) := by decide +kernel
theorem dX9_flight_58 : decode cX9_flight 58 = .ok (.ifCond .ne 10, 3) := by decide +kernel
theorem dX9_flight_61 : decode cX9_flight 61 = .ok (.aload_n 0, 1) := by decide +kernel
theorem dX9_flight_62 : decode cX9_flight 62 = .ok (.invokevirtual 174, 3) := by decide +kernel
theorem dX9_flight_65 : decode cX9_flight 65 = .ok (.ifCond .eq 7, 3) := by decide +kernel
theorem dX9_flight_68 : decode cX9_flight 68 = .ok (.iconst 1, 1) := by decide +kernel
theorem dX9_flight_69 : decode cX9_flight 69 = .ok (.goto 4, 3) := by decide +kernel
theorem dX9_flight_72 : decode cX9_flight 72 = .ok (.iconst 0, 1) := by decide +kernel
theorem dX9_flight_73 : decode cX9_flight 73 = .ok (.istore 6, 2) := by decide +kernel
theorem dX9_flight_75 : decode cX9_flight 75 = .ok (.iload 5, 2) := by decide +kernel
theorem dX9_flight_77 : decode cX9_flight 77 = .ok (.ireturn, 1) := by decide +kernel
theorem dX9_put_0 : decode cX9_put 0 = .ok (.aload_n 0, 1) := by decide +kernel
theorem dX9_put_1 : decode cX9_put 1 = .ok (.aload_n 0, 1) := by decide +kernel
theorem dX9_put_2 : decode cX9_put 2 = .ok (.iload_n 1, 1) := by decide +kernel
theorem dX9_put_3 : decode cX9_put 3 = .ok (.invokevirtual 104, 3) := by decide +kernel
theorem dX9_put_6 : decode cX9_put 6 = .ok (.ifCond .eq 32, 3) := by decide +kernel
theorem dX9_put_9 : decode cX9_put 9 = .ok (.aload_n 0, 1) := by decide +kernel
theorem dX9_put_10 : decode cX9_put 10 = .ok (.iload_n 2, 1) := by decide +kernel
theorem dX9_put_11 : decode cX9_put 11 = .ok (.invokevirtual 104, 3) := by decide +kernel
theorem dX9_put_14 : decode cX9_put 14 = .ok (.ifCond .eq 24, 3) := by decide +kernel
theorem dX9_put_17 : decode cX9_put 17 = .ok (.iload_n 3, 1) := by decide +kernel
theorem dX9_put_18 : decode cX9_put 18 = .ok (.iconst 0, 1) := by decide +kernel
theorem dX9_put_19 : decode cX9_put 19 = .ok (.iconst 3, 1) := by decide +kernel
theorem dX9_put_20 : decode cX9_put 20 = .ok (.invokestatic 99, 3) := by decide +kernel
theorem dX9_put_23 : decode cX9_put 23 = .ok (.ifCond .eq 15, 3) := by decide +kernel
theorem dX9_put_26 : decode cX9_put 26 = .ok (.iload 4, 2) := by decide +kernel
theorem dX9_put_28 : decode cX9_put 28 = .ok (.invokestatic 178, 3) := by decide +kernel
theorem dX9_put_31 : decode cX9_put 31 = .ok (.ifCond .eq 7, 3) := by decide +kernel
theorem dX9_put_34 : decode cX9_put 34 = .ok (.iconst 1, 1) := by decide +kernel
theorem dX9_put_35 : decode cX9_put 35 = .ok (.goto 4, 3) := by decide +kernel
theorem dX9_put_38 : decode cX9_put 38 = .ok (.iconst 0, 1) := by decide +kernel
theorem dX9_put_39 : decode cX9_put 39 = .ok (.iconst 1, 1) := by decide +kernel
theorem dX9_put_40 : decode cX9_put 40 = .ok (.iload_n 1, 1) := by decide +kernel
theorem dX9_put_41 : decode cX9_put 41 = .ok (.iload 4, 2) := by decide +kernel
theorem dX9_put_43 : decode cX9_put 43 = .ok (.iload_n 2, 1) := by decide +kernel
theorem dX9_put_44 : decode cX9_put 44 = .ok (.iload_n 3, 1) := by decide +kernel
theorem dX9_put_45 : decode cX9_put 45 = .ok (.invokevirtual 185, 3) := by decide +kernel
theorem dX9_put_48 : decode cX9_put 48 = .ok (.ireturn, 1) := by decide +kernel
theorem dX9_take_0 : decode cX9_take 0 = .ok (.aload_n 0, 1) := by decide +kernel
theorem dX9_take_1 : decode cX9_take 1 = .ok (.aload_n 0, 1) := by decide +kernel
theorem dX9_take_2 : decode cX9_take 2 = .ok (.iload_n 1, 1) := by decide +kernel
theorem dX9_take_3 : decode cX9_take 3 = .ok (.invokevirtual 104, 3) := by decide +kernel
theorem dX9_take_6 : decode cX9_take 6 = .ok (.ifCond .eq 14, 3) := by decide +kernel
theorem dX9_take_9 : decode cX9_take 9 = .ok (.iload_n 2, 1) := by decide +kernel
theorem dX9_take_10 : decode cX9_take 10 = .ok (.invokestatic 178, 3) := by decide +kernel
theorem dX9_take_13 : decode cX9_take 13 = .ok (.ifCond .eq 7, 3) := by decide +kernel
theorem dX9_take_16 : decode cX9_take 16 = .ok (.iconst 1, 1) := by decide +kernel
theorem dX9_take_17 : decode cX9_take 17 = .ok (.goto 4, 3) := by decide +kernel
theorem dX9_take_20 : decode cX9_take 20 = .ok (.iconst 0, 1) := by decide +kernel
theorem dX9_take_21 : decode cX9_take 21 = .ok (.iconst 2, 1) := by decide +kernel
theorem dX9_take_22 : decode cX9_take 22 = .ok (.iload_n 1, 1) := by decide +kernel
theorem dX9_take_23 : decode cX9_take 23 = .ok (.iload_n 2, 1) := by decide +kernel
theorem dX9_take_24 : decode cX9_take 24 = .ok (.iconst 0, 1) := by decide +kernel
theorem dX9_take_25 : decode cX9_take 25 = .ok (.iconst 0, 1) := by decide +kernel
theorem dX9_take_26 : decode cX9_take 26 = .ok (.invokevirtual 185, 3) := by decide +kernel
theorem dX9_take_29 : decode cX9_take 29 = .ok (.ireturn, 1) := by decide +kernel
theorem dX9_done_0 : decode cX9_done 0 = .ok (.aload_n 0, 1) := by decide +kernel
theorem dX9_done_1 : decode cX9_done 1 = .ok (.aload_n 0, 1) := by decide +kernel
theorem dX9_done_2 : decode cX9_done 2 = .ok (.iload_n 1, 1) := by decide +kernel
theorem dX9_done_3 : decode cX9_done 3 = .ok (.invokevirtual 104, 3) := by decide +kernel
theorem dX9_done_6 : decode cX9_done 6 = .ok (.ifCond .eq 22, 3) := by decide +kernel
theorem dX9_done_9 : decode cX9_done 9 = .ok (.aload_n 0, 1) := by decide +kernel
theorem dX9_done_10 : decode cX9_done 10 = .ok (.iload_n 2, 1) := by decide +kernel
theorem dX9_done_11 : decode cX9_done 11 = .ok (.invokevirtual 120, 3) := by decide +kernel
theorem dX9_done_14 : decode cX9_done 14 = .ok (.ifCond .eq 14, 3) := by decide +kernel
theorem dX9_done_17 : decode cX9_done 17 = .ok (.iload_n 3, 1) := by decide +kernel
theorem dX9_done_18 : decode cX9_done 18 = .ok (.invokestatic 178, 3) := by decide +kernel
theorem dX9_done_21 : decode cX9_done 21 = .ok (.ifCond .eq 7, 3) := by decide +kernel
theorem dX9_done_24 : decode cX9_done 24 = .ok (.iconst 1, 1) := by decide +kernel
theorem dX9_done_25 : decode cX9_done 25 = .ok (.goto 4, 3) := by decide +kernel
theorem dX9_done_28 : decode cX9_done 28 = .ok (.iconst 0, 1) := by decide +kernel
theorem dX9_done_29 : decode cX9_done 29 = .ok (.iconst 3, 1) := by decide +kernel
theorem dX9_done_30 : decode cX9_done 30 = .ok (.iload_n 1, 1) := by decide +kernel
theorem dX9_done_31 : decode cX9_done 31 = .ok (.iload_n 3, 1) := by decide +kernel
theorem dX9_done_32 : decode cX9_done 32 = .ok (.iload_n 2, 1) := by decide +kernel
theorem dX9_done_33 : decode cX9_done 33 = .ok (.iconst 0, 1) := by decide +kernel
theorem dX9_done_34 : decode cX9_done 34 = .ok (.iconst 0, 1) := by decide +kernel
theorem dX9_done_35 : decode cX9_done 35 = .ok (.invokevirtual 181, 3) := by decide +kernel
theorem dX9_done_38 : decode cX9_done 38 = .ok (.ireturn, 1) := by decide +kernel
theorem dX9_concede_0 : decode cX9_concede 0 = .ok (.aload_n 0, 1) := by decide +kernel
theorem dX9_concede_1 : decode cX9_concede 1 = .ok (.iload_n 1, 1) := by decide +kernel
theorem dX9_concede_2 : decode cX9_concede 2 = .ok (.invokevirtual 104, 3) := by decide +kernel
theorem dX9_concede_5 : decode cX9_concede 5 = .ok (.ifCond .eq 51, 3) := by decide +kernel
theorem dX9_concede_8 : decode cX9_concede 8 = .ok (.aload_n 0, 1) := by decide +kernel
theorem dX9_concede_9 : decode cX9_concede 9 = .ok (.iload_n 2, 1) := by decide +kernel
theorem dX9_concede_10 : decode cX9_concede 10 = .ok (.invokevirtual 120, 3) := by decide +kernel
theorem dX9_concede_13 : decode cX9_concede 13 = .ok (.ifCond .eq 43, 3) := by decide +kernel
theorem dX9_concede_16 : decode cX9_concede 16 = .ok (.iload_n 3, 1) := by decide +kernel
theorem dX9_concede_17 : decode cX9_concede 17 = .ok (.invokestatic 178, 3) := by decide +kernel
theorem dX9_concede_20 : decode cX9_concede 20 = .ok (.ifCond .eq 36, 3) := by decide +kernel
theorem dX9_concede_23 : decode cX9_concede 23 = .ok (.iload 4, 2) := by decide +kernel
theorem dX9_concede_25 : decode cX9_concede 25 = .ok (.iconst 0, 1) := by decide +kernel
theorem dX9_concede_26 : decode cX9_concede 26 = .ok (.sipush 10000, 3) := by decide +kernel
theorem dX9_concede_29 : decode cX9_concede 29 = .ok (.invokestatic 99, 3) := by decide +kernel
theorem dX9_concede_32 : decode cX9_concede 32 = .ok (.ifCond .eq 24, 3) := by decide +kernel
theorem dX9_concede_35 : decode cX9_concede 35 = .ok (.iload 5, 2) := by decide +kernel
theorem dX9_concede_37 : decode cX9_concede 37 = .ok (.ifCond .lt 19, 3) := by decide +kernel
theorem dX9_concede_40 : decode cX9_concede 40 = .ok (.iload 5, 2) := by decide +kernel
theorem dX9_concede_42 : decode cX9_concede 42 = .ok (.sipush 10001, 3) := by decide +kernel
theorem dX9_concede_45 : decode cX9_concede 45 = .ok (.idiv, 1) := by decide +kernel
theorem dX9_concede_46 : decode cX9_concede 46 = .ok (.sipush 10000, 3) := by decide +kernel
theorem dX9_concede_49 : decode cX9_concede 49 = .ok (.if_icmp .gt 7, 3) := by decide +kernel
theorem dX9_concede_52 : decode cX9_concede 52 = .ok (.iconst 1, 1) := by decide +kernel
theorem dX9_concede_53 : decode cX9_concede 53 = .ok (.goto 4, 3) := by decide +kernel
theorem dX9_concede_56 : decode cX9_concede 56 = .ok (.iconst 0, 1) := by decide +kernel
theorem dX9_concede_57 : decode cX9_concede 57 = .ok (.istore 6, 2) := by decide +kernel
theorem dX9_concede_59 : decode cX9_concede 59 = .ok (.aload_n 0, 1) := by decide +kernel
theorem dX9_concede_60 : decode cX9_concede 60 = .ok (.iload 6, 2) := by decide +kernel
theorem dX9_concede_62 : decode cX9_concede 62 = .ok (.iconst 4, 1) := by decide +kernel
theorem dX9_concede_63 : decode cX9_concede 63 = .ok (.iload_n 1, 1) := by decide +kernel
theorem dX9_concede_64 : decode cX9_concede 64 = .ok (.iload_n 3, 1) := by decide +kernel
theorem dX9_concede_65 : decode cX9_concede 65 = .ok (.iload_n 2, 1) := by decide +kernel
theorem dX9_concede_66 : decode cX9_concede 66 = .ok (.iload 4, 2) := by decide +kernel
theorem dX9_concede_68 : decode cX9_concede 68 = .ok (.iload 5, 2) := by decide +kernel
theorem dX9_concede_70 : decode cX9_concede 70 = .ok (.invokevirtual 181, 3) := by decide +kernel
theorem dX9_concede_73 : decode cX9_concede 73 = .ok (.ireturn, 1) := by decide +kernel
theorem dX9_rebuild_0 : decode cX9_rebuild 0 = .ok (.aload_n 0, 1) := by decide +kernel
theorem dX9_rebuild_1 : decode cX9_rebuild 1 = .ok (.aload_n 0, 1) := by decide +kernel
theorem dX9_rebuild_2 : decode cX9_rebuild 2 = .ok (.iload_n 1, 1) := by decide +kernel
theorem dX9_rebuild_3 : decode cX9_rebuild 3 = .ok (.invokevirtual 104, 3) := by decide +kernel
theorem dX9_rebuild_6 : decode cX9_rebuild 6 = .ok (.ifCond .eq 34, 3) := by decide +kernel
theorem dX9_rebuild_9 : decode cX9_rebuild 9 = .ok (.iload_n 2, 1) := by decide +kernel
theorem dX9_rebuild_10 : decode cX9_rebuild 10 = .ok (.iconst 0, 1) := by decide +kernel
theorem dX9_rebuild_11 : decode cX9_rebuild 11 = .ok (.bipush 7, 2) := by decide +kernel
theorem dX9_rebuild_13 : decode cX9_rebuild 13 = .ok (.invokestatic 99, 3) := by decide +kernel
theorem dX9_rebuild_16 : decode cX9_rebuild 16 = .ok (.ifCond .eq 24, 3) := by decide +kernel
theorem dX9_rebuild_19 : decode cX9_rebuild 19 = .ok (.aload_n 0, 1) := by decide +kernel
theorem dX9_rebuild_20 : decode cX9_rebuild 20 = .ok (.getfield 40, 3) := by decide +kernel
theorem dX9_rebuild_23 : decode cX9_rebuild 23 = .ok (.iload_n 2, 1) := by decide +kernel
theorem dX9_rebuild_24 : decode cX9_rebuild 24 = .ok (.iaload, 1) := by decide +kernel
theorem dX9_rebuild_25 : decode cX9_rebuild 25 = .ok (.iconst (-1), 1) := by decide +kernel
theorem dX9_rebuild_26 : decode cX9_rebuild 26 = .ok (.if_icmp .eq 14, 3) := by decide +kernel
theorem dX9_rebuild_29 : decode cX9_rebuild 29 = .ok (.iload_n 3, 1) := by decide +kernel
theorem dX9_rebuild_30 : decode cX9_rebuild 30 = .ok (.invokestatic 178, 3) := by decide +kernel
theorem dX9_rebuild_33 : decode cX9_rebuild 33 = .ok (.ifCond .eq 7, 3) := by decide +kernel
theorem dX9_rebuild_36 : decode cX9_rebuild 36 = .ok (.iconst 1, 1) := by decide +kernel
theorem dX9_rebuild_37 : decode cX9_rebuild 37 = .ok (.goto 4, 3) := by decide +kernel
theorem dX9_rebuild_40 : decode cX9_rebuild 40 = .ok (.iconst 0, 1) := by decide +kernel
theorem dX9_rebuild_41 : decode cX9_rebuild 41 = .ok (.iconst 5, 1) := by decide +kernel
theorem dX9_rebuild_42 : decode cX9_rebuild 42 = .ok (.iload_n 1, 1) := by decide +kernel
theorem dX9_rebuild_43 : decode cX9_rebuild 43 = .ok (.iload_n 3, 1) := by decide +kernel
theorem dX9_rebuild_44 : decode cX9_rebuild 44 = .ok (.iload_n 2, 1) := by decide +kernel
theorem dX9_rebuild_45 : decode cX9_rebuild 45 = .ok (.iconst 0, 1) := by decide +kernel
theorem dX9_rebuild_46 : decode cX9_rebuild 46 = .ok (.iconst 0, 1) := by decide +kernel
theorem dX9_rebuild_47 : decode cX9_rebuild 47 = .ok (.invokevirtual 181, 3) := by decide +kernel
theorem dX9_rebuild_50 : decode cX9_rebuild 50 = .ok (.ireturn, 1) := by decide +kernel
theorem dX9_strike_0 : decode cX9_strike 0 = .ok (.aload_n 0, 1) := by decide +kernel
theorem dX9_strike_1 : decode cX9_strike 1 = .ok (.iload_n 1, 1) := by decide +kernel
theorem dX9_strike_2 : decode cX9_strike 2 = .ok (.ifCond .lt 20, 3) := by decide +kernel
theorem dX9_strike_5 : decode cX9_strike 5 = .ok (.iload_n 1, 1) := by decide +kernel
theorem dX9_strike_6 : decode cX9_strike 6 = .ok (.aload_n 0, 1) := by decide +kernel
theorem dX9_strike_7 : decode cX9_strike 7 = .ok (.getfield 126, 3) := by decide +kernel
theorem dX9_strike_10 : decode cX9_strike 10 = .ok (.if_icmp .ge 12, 3) := by decide +kernel
theorem dX9_strike_13 : decode cX9_strike 13 = .ok (.aload_n 0, 1) := by decide +kernel
theorem dX9_strike_14 : decode cX9_strike 14 = .ok (.getfield 58, 3) := by decide +kernel
theorem dX9_strike_17 : decode cX9_strike 17 = .ok (.iload_n 1, 1) := by decide +kernel
theorem dX9_strike_18 : decode cX9_strike 18 = .ok (.baload, 1) := by decide +kernel
theorem dX9_strike_19 : decode cX9_strike 19 = .ok (.ifCond .ne 7, 3) := by decide +kernel
theorem dX9_strike_22 : decode cX9_strike 22 = .ok (.iconst 1, 1) := by decide +kernel
theorem dX9_strike_23 : decode cX9_strike 23 = .ok (.goto 4, 3) := by decide +kernel
theorem dX9_strike_26 : decode cX9_strike 26 = .ok (.iconst 0, 1) := by decide +kernel
theorem dX9_strike_27 : decode cX9_strike 27 = .ok (.putfield 95, 3) := by decide +kernel
theorem dX9_strike_30 : decode cX9_strike 30 = .ok (.aload_n 0, 1) := by decide +kernel
theorem dX9_strike_31 : decode cX9_strike 31 = .ok (.getfield 95, 3) := by decide +kernel
theorem dX9_strike_34 : decode cX9_strike 34 = .ok (.ifCond .eq 4, 3) := by decide +kernel
theorem dX9_strike_37 : decode cX9_strike 37 = .ok (.return_, 1) := by decide +kernel
theorem dX9_strike_38 : decode cX9_strike 38 = .ok (.aload_n 0, 1) := by decide +kernel
theorem dX9_strike_39 : decode cX9_strike 39 = .ok (.getfield 58, 3) := by decide +kernel
theorem dX9_strike_42 : decode cX9_strike 42 = .ok (.iload_n 1, 1) := by decide +kernel
theorem dX9_strike_43 : decode cX9_strike 43 = .ok (.iconst 0, 1) := by decide +kernel
theorem dX9_strike_44 : decode cX9_strike 44 = .ok (.bastore, 1) := by decide +kernel
theorem dX9_strike_45 : decode cX9_strike 45 = .ok (.aload_n 0, 1) := by decide +kernel
theorem dX9_strike_46 : decode cX9_strike 46 = .ok (.dup, 1) := by decide +kernel
theorem dX9_strike_47 : decode cX9_strike 47 = .ok (.getfield 167, 3) := by decide +kernel
theorem dX9_strike_50 : decode cX9_strike 50 = .ok (.iconst 1, 1) := by decide +kernel
theorem dX9_strike_51 : decode cX9_strike 51 = .ok (.isub, 1) := by decide +kernel
theorem dX9_strike_52 : decode cX9_strike 52 = .ok (.putfield 167, 3) := by decide +kernel
theorem dX9_strike_55 : decode cX9_strike 55 = .ok (.aload_n 0, 1) := by decide +kernel
theorem dX9_strike_56 : decode cX9_strike 56 = .ok (.invokevirtual 174, 3) := by decide +kernel
theorem dX9_strike_59 : decode cX9_strike 59 = .ok (.ifCond .eq 4, 3) := by decide +kernel
theorem dX9_strike_62 : decode cX9_strike 62 = .ok (.return_, 1) := by decide +kernel
theorem dX9_strike_63 : decode cX9_strike 63 = .ok (.aload_n 0, 1) := by decide +kernel
theorem dX9_strike_64 : decode cX9_strike 64 = .ok (.getfield 58, 3) := by decide +kernel
theorem dX9_strike_67 : decode cX9_strike 67 = .ok (.iload_n 1, 1) := by decide +kernel
theorem dX9_strike_68 : decode cX9_strike 68 = .ok (.iconst 1, 1) := by decide +kernel
theorem dX9_strike_69 : decode cX9_strike 69 = .ok (.bastore, 1) := by decide +kernel
theorem dX9_strike_70 : decode cX9_strike 70 = .ok (.aload_n 0, 1) := by decide +kernel
theorem dX9_strike_71 : decode cX9_strike 71 = .ok (.dup, 1) := by decide +kernel
theorem dX9_strike_72 : decode cX9_strike 72 = .ok (.getfield 167, 3) := by decide +kernel
theorem dX9_strike_75 : decode cX9_strike 75 = .ok (.iconst 1, 1) := by decide +kernel
theorem dX9_strike_76 : decode cX9_strike 76 = .ok (.iadd, 1) := by decide +kernel
theorem dX9_strike_77 : decode cX9_strike 77 = .ok (.putfield 167, 3) := by decide +kernel
theorem dX9_strike_80 : decode cX9_strike 80 = .ok (.aload_n 0, 1) := by decide +kernel
theorem dX9_strike_81 : decode cX9_strike 81 = .ok (.invokevirtual 174, 3) := by decide +kernel
theorem dX9_strike_84 : decode cX9_strike 84 = .ok (.istore_n 2, 1) := by decide +kernel
theorem dX9_strike_85 : decode cX9_strike 85 = .ok (.aload_n 0, 1) := by decide +kernel
theorem dX9_strike_86 : decode cX9_strike 86 = .ok (.iconst 2, 1) := by decide +kernel
theorem dX9_strike_87 : decode cX9_strike 87 = .ok (.putfield 95, 3) := by decide +kernel
theorem dX9_strike_90 : decode cX9_strike 90 = .ok (.return_, 1) := by decide +kernel
theorem dX9_count_0 : decode cX9_count 0 = .ok (.aload_n 0, 1) := by decide +kernel
theorem dX9_count_1 : decode cX9_count 1 = .ok (.iconst 0, 1) := by decide +kernel
theorem dX9_count_2 : decode cX9_count 2 = .ok (.putfield 95, 3) := by decide +kernel
theorem dX9_count_5 : decode cX9_count 5 = .ok (.iload_n 1, 1) := by decide +kernel
theorem dX9_count_6 : decode cX9_count 6 = .ok (.ifCond .ne 10, 3) := by decide +kernel
theorem dX9_count_9 : decode cX9_count 9 = .ok (.aload_n 0, 1) := by decide +kernel
theorem dX9_count_10 : decode cX9_count 10 = .ok (.getfield 126, 3) := by decide +kernel
theorem dX9_count_13 : decode cX9_count 13 = .ok (.goto 28, 3) := by decide +kernel
theorem dX9_count_16 : decode cX9_count 16 = .ok (.iload_n 1, 1) := by decide +kernel
theorem dX9_count_17 : decode cX9_count 17 = .ok (.iconst 1, 1) := by decide +kernel
theorem dX9_count_18 : decode cX9_count 18 = .ok (.if_icmp .ne 10, 3) := by decide +kernel
theorem dX9_count_21 : decode cX9_count 21 = .ok (.aload_n 0, 1) := by decide +kernel
theorem dX9_count_22 : decode cX9_count 22 = .ok (.getfield 167, 3) := by decide +kernel
theorem dX9_count_25 : decode cX9_count 25 = .ok (.goto 16, 3) := by decide +kernel
theorem dX9_count_28 : decode cX9_count 28 = .ok (.iload_n 1, 1) := by decide +kernel
theorem dX9_count_29 : decode cX9_count 29 = .ok (.iconst 2, 1) := by decide +kernel
theorem dX9_count_30 : decode cX9_count 30 = .ok (.if_icmp .ne 10, 3) := by decide +kernel
theorem dX9_count_33 : decode cX9_count 33 = .ok (.aload_n 0, 1) := by decide +kernel
theorem dX9_count_34 : decode cX9_count 34 = .ok (.getfield 111, 3) := by decide +kernel
theorem dX9_count_37 : decode cX9_count 37 = .ok (.goto 4, 3) := by decide +kernel
theorem dX9_count_40 : decode cX9_count 40 = .ok (.iconst (-1), 1) := by decide +kernel
theorem dX9_count_41 : decode cX9_count 41 = .ok (.ireturn, 1) := by decide +kernel
theorem dX9_where_0 : decode cX9_where 0 = .ok (.aload_n 0, 1) := by decide +kernel
theorem dX9_where_1 : decode cX9_where 1 = .ok (.iconst 0, 1) := by decide +kernel
theorem dX9_where_2 : decode cX9_where 2 = .ok (.putfield 95, 3) := by decide +kernel
theorem dX9_where_5 : decode cX9_where 5 = .ok (.aload_n 0, 1) := by decide +kernel
theorem dX9_where_6 : decode cX9_where 6 = .ok (.iload_n 1, 1) := by decide +kernel
theorem dX9_where_7 : decode cX9_where 7 = .ok (.invokevirtual 104, 3) := by decide +kernel
theorem dX9_where_10 : decode cX9_where 10 = .ok (.ifCond .eq 19, 3) := by decide +kernel
theorem dX9_where_13 : decode cX9_where 13 = .ok (.iload_n 2, 1) := by decide +kernel
theorem dX9_where_14 : decode cX9_where 14 = .ok (.invokestatic 178, 3) := by decide +kernel
theorem dX9_where_17 : decode cX9_where 17 = .ok (.ifCond .eq 12, 3) := by decide +kernel
theorem dX9_where_20 : decode cX9_where 20 = .ok (.iload_n 3, 1) := by decide +kernel
theorem dX9_where_21 : decode cX9_where 21 = .ok (.iconst 0, 1) := by decide +kernel
theorem dX9_where_22 : decode cX9_where 22 = .ok (.iconst 3, 1) := by decide +kernel
theorem dX9_where_23 : decode cX9_where 23 = .ok (.invokestatic 99, 3) := by decide +kernel
theorem dX9_where_26 : decode cX9_where 26 = .ok (.ifCond .ne 5, 3) := by decide +kernel
theorem dX9_where_29 : decode cX9_where 29 = .ok (.iconst (-1), 1) := by decide +kernel
theorem dX9_where_30 : decode cX9_where 30 = .ok (.ireturn, 1) := by decide +kernel
theorem dX9_where_31 : decode cX9_where 31 = .ok (.aload_n 0, 1) := by decide +kernel
theorem dX9_where_32 : decode cX9_where 32 = .ok (.iload_n 2, 1) := by decide +kernel
theorem dX9_where_33 : decode cX9_where 33 = .ok (.invokevirtual 189, 3) := by decide +kernel
theorem dX9_where_36 : decode cX9_where 36 = .ok (.istore 4, 2) := by decide +kernel
theorem dX9_where_38 : decode cX9_where 38 = .ok (.iload_n 3, 1) := by decide +kernel
theorem dX9_where_39 : decode cX9_where 39 = .ok (.ifCond .ne 10, 3) := by decide +kernel
theorem dX9_where_42 : decode cX9_where 42 = .ok (.aload_n 0, 1) := by decide +kernel
theorem dX9_where_43 : decode cX9_where 43 = .ok (.getfield 80, 3) := by decide +kernel
theorem dX9_where_46 : decode cX9_where 46 = .ok (.iload_n 1, 1) := by decide +kernel
theorem dX9_where_47 : decode cX9_where 47 = .ok (.iaload, 1) := by decide +kernel
theorem dX9_where_48 : decode cX9_where 48 = .ok (.ireturn, 1) := by decide +kernel
theorem dX9_where_49 : decode cX9_where 49 = .ok (.iload_n 3, 1) := by decide +kernel
theorem dX9_where_50 : decode cX9_where 50 = .ok (.iconst 1, 1) := by decide +kernel
theorem dX9_where_51 : decode cX9_where 51 = .ok (.if_icmp .ne 10, 3) := by decide +kernel
theorem dX9_where_54 : decode cX9_where 54 = .ok (.aload_n 0, 1) := by decide +kernel
theorem dX9_where_55 : decode cX9_where 55 = .ok (.getfield 83, 3) := by decide +kernel
theorem dX9_where_58 : decode cX9_where 58 = .ok (.iload_n 1, 1) := by decide +kernel
theorem dX9_where_59 : decode cX9_where 59 = .ok (.iaload, 1) := by decide +kernel
theorem dX9_where_60 : decode cX9_where 60 = .ok (.ireturn, 1) := by decide +kernel
theorem dX9_where_61 : decode cX9_where 61 = .ok (.iload_n 3, 1) := by decide +kernel
theorem dX9_where_62 : decode cX9_where 62 = .ok (.iconst 2, 1) := by decide +kernel
theorem dX9_where_63 : decode cX9_where 63 = .ok (.if_icmp .ne 11, 3) := by decide +kernel
theorem dX9_where_66 : decode cX9_where 66 = .ok (.aload_n 0, 1) := by decide +kernel
theorem dX9_where_67 : decode cX9_where 67 = .ok (.iload_n 1, 1) := by decide +kernel
theorem dX9_where_68 : decode cX9_where 68 = .ok (.invokevirtual 156, 3) := by decide +kernel
theorem dX9_where_71 : decode cX9_where 71 = .ok (.goto 8, 3) := by decide +kernel
theorem dX9_where_74 : decode cX9_where 74 = .ok (.aload_n 0, 1) := by decide +kernel
theorem dX9_where_75 : decode cX9_where 75 = .ok (.iload_n 1, 1) := by decide +kernel
theorem dX9_where_76 : decode cX9_where 76 = .ok (.invokevirtual 136, 3) := by decide +kernel
theorem dX9_where_79 : decode cX9_where 79 = .ok (.ireturn, 1) := by decide +kernel
theorem dX9_at_0 : decode cX9_at 0 = .ok (.aload_n 0, 1) := by decide +kernel
theorem dX9_at_1 : decode cX9_at 1 = .ok (.iconst 0, 1) := by decide +kernel
theorem dX9_at_2 : decode cX9_at 2 = .ok (.putfield 95, 3) := by decide +kernel
theorem dX9_at_5 : decode cX9_at 5 = .ok (.aload_n 0, 1) := by decide +kernel
theorem dX9_at_6 : decode cX9_at 6 = .ok (.iload_n 1, 1) := by decide +kernel
theorem dX9_at_7 : decode cX9_at 7 = .ok (.invokevirtual 104, 3) := by decide +kernel
theorem dX9_at_10 : decode cX9_at 10 = .ok (.ifCond .eq 19, 3) := by decide +kernel
theorem dX9_at_13 : decode cX9_at 13 = .ok (.iload_n 2, 1) := by decide +kernel
theorem dX9_at_14 : decode cX9_at 14 = .ok (.iconst 0, 1) := by decide +kernel
theorem dX9_at_15 : decode cX9_at 15 = .ok (.iconst 3, 1) := by decide +kernel
theorem dX9_at_16 : decode cX9_at 16 = .ok (.invokestatic 99, 3) := by decide +kernel
theorem dX9_at_19 : decode cX9_at 19 = .ok (.ifCond .eq 10, 3) := by decide +kernel
theorem dX9_at_22 : decode cX9_at 22 = .ok (.iload_n 3, 1) := by decide +kernel
theorem dX9_at_23 : decode cX9_at 23 = .ok (.invokestatic 178, 3) := by decide +kernel
theorem dX9_at_26 : decode cX9_at 26 = .ok (.ifCond .ne 5, 3) := by decide +kernel
theorem dX9_at_29 : decode cX9_at 29 = .ok (.iconst (-1), 1) := by decide +kernel
theorem dX9_at_30 : decode cX9_at 30 = .ok (.ireturn, 1) := by decide +kernel
theorem dX9_at_31 : decode cX9_at 31 = .ok (.aload_n 0, 1) := by decide +kernel
theorem dX9_at_32 : decode cX9_at 32 = .ok (.iload_n 3, 1) := by decide +kernel
theorem dX9_at_33 : decode cX9_at 33 = .ok (.invokevirtual 189, 3) := by decide +kernel
theorem dX9_at_36 : decode cX9_at 36 = .ok (.istore 4, 2) := by decide +kernel
theorem dX9_at_38 : decode cX9_at 38 = .ok (.aload_n 0, 1) := by decide +kernel
theorem dX9_at_39 : decode cX9_at 39 = .ok (.iload_n 1, 1) := by decide +kernel
theorem dX9_at_40 : decode cX9_at 40 = .ok (.iload_n 2, 1) := by decide +kernel
theorem dX9_at_41 : decode cX9_at 41 = .ok (.invokevirtual 140, 3) := by decide +kernel
theorem dX9_at_44 : decode cX9_at 44 = .ok (.ireturn, 1) := by decide +kernel
theorem dX9_counterAt_0 : decode cX9_counterAt 0 = .ok (.iload_n 2, 1) := by decide +kernel
theorem dX9_counterAt_1 : decode cX9_counterAt 1 = .ok (.iconst 2, 1) := by decide +kernel
theorem dX9_counterAt_2 : decode cX9_counterAt 2 = .ok (.if_icmp .ne 15, 3) := by decide +kernel
theorem dX9_counterAt_5 : decode cX9_counterAt 5 = .ok (.iload_n 3, 1) := by decide +kernel
theorem dX9_counterAt_6 : decode cX9_counterAt 6 = .ok (.bipush 100, 2) := by decide +kernel
theorem dX9_counterAt_8 : decode cX9_counterAt 8 = .ok (.idiv, 1) := by decide +kernel
theorem dX9_counterAt_9 : decode cX9_counterAt 9 = .ok (.aload_n 0, 1) := by decide +kernel
theorem dX9_counterAt_10 : decode cX9_counterAt 10 = .ok (.getfield 28, 3) := by decide +kernel
theorem dX9_counterAt_13 : decode cX9_counterAt 13 = .ok (.iload_n 1, 1) := by decide +kernel
theorem dX9_counterAt_14 : decode cX9_counterAt 14 = .ok (.iaload, 1) := by decide +kernel
theorem dX9_counterAt_15 : decode cX9_counterAt 15 = .ok (.isub, 1) := by decide +kernel
theorem dX9_counterAt_16 : decode cX9_counterAt 16 = .ok (.ireturn, 1) := by decide +kernel
theorem dX9_counterAt_17 : decode cX9_counterAt 17 = .ok (.iload_n 2, 1) := by decide +kernel
theorem dX9_counterAt_18 : decode cX9_counterAt 18 = .ok (.ifCond .ne 12, 3) := by decide +kernel
theorem dX9_counterAt_21 : decode cX9_counterAt 21 = .ok (.aload_n 0, 1) := by decide +kernel
theorem dX9_counterAt_22 : decode cX9_counterAt 22 = .ok (.getfield 22, 3) := by decide +kernel
theorem dX9_counterAt_25 : decode cX9_counterAt 25 = .ok (.iload_n 1, 1) := by decide +kernel
theorem dX9_counterAt_26 : decode cX9_counterAt 26 = .ok (.iaload, 1) := by decide +kernel
theorem dX9_counterAt_27 : decode cX9_counterAt 27 = .ok (.goto 9, 3) := by decide +kernel
theorem dX9_counterAt_30 : decode cX9_counterAt 30 = .ok (.aload_n 0, 1) := by decide +kernel
theorem dX9_counterAt_31 : decode cX9_counterAt 31 = .ok (.getfield 25, 3) := by decide +kernel
theorem dX9_counterAt_34 : decode cX9_counterAt 34 = .ok (.iload_n 1, 1) := by decide +kernel
theorem dX9_counterAt_35 : decode cX9_counterAt 35 = .ok (.iaload, 1) := by decide +kernel
theorem dX9_counterAt_36 : decode cX9_counterAt 36 = .ok (.istore 4, 2) := by decide +kernel
theorem dX9_counterAt_38 : decode cX9_counterAt 38 = .ok (.iconst 0, 1) := by decide +kernel
theorem dX9_counterAt_39 : decode cX9_counterAt 39 = .ok (.istore 5, 2) := by decide +kernel
theorem dX9_counterAt_41 : decode cX9_counterAt 41 = .ok (.iload 5, 2) := by decide +kernel
theorem dX9_counterAt_43 : decode cX9_counterAt 43 = .ok (.aload_n 0, 1) := by decide +kernel
theorem dX9_counterAt_44 : decode cX9_counterAt 44 = .ok (.getfield 126, 3) := by decide +kernel
theorem dX9_counterAt_47 : decode cX9_counterAt 47 = .ok (.if_icmp .ge 91, 3) := by decide +kernel
theorem dX9_counterAt_50 : decode cX9_counterAt 50 = .ok (.aload_n 0, 1) := by decide +kernel
theorem dX9_counterAt_51 : decode cX9_counterAt 51 = .ok (.getfield 58, 3) := by decide +kernel
theorem dX9_counterAt_54 : decode cX9_counterAt 54 = .ok (.iload 5, 2) := by decide +kernel
theorem dX9_counterAt_56 : decode cX9_counterAt 56 = .ok (.baload, 1) := by decide +kernel
theorem dX9_counterAt_57 : decode cX9_counterAt 57 = .ok (.ifCond .eq 75, 3) := by decide +kernel
theorem dX9_counterAt_60 : decode cX9_counterAt 60 = .ok (.aload_n 0, 1) := by decide +kernel
theorem dX9_counterAt_61 : decode cX9_counterAt 61 = .ok (.getfield 55, 3) := by decide +kernel
theorem dX9_counterAt_64 : decode cX9_counterAt 64 = .ok (.iload 5, 2) := by decide +kernel
theorem dX9_counterAt_66 : decode cX9_counterAt 66 = .ok (.iaload, 1) := by decide +kernel
theorem dX9_counterAt_67 : decode cX9_counterAt 67 = .ok (.ifCond .ne 65, 3) := by decide +kernel
theorem dX9_counterAt_70 : decode cX9_counterAt 70 = .ok (.aload_n 0, 1) := by decide +kernel
theorem dX9_counterAt_71 : decode cX9_counterAt 71 = .ok (.getfield 65, 3) := by decide +kernel
theorem dX9_counterAt_74 : decode cX9_counterAt 74 = .ok (.iload 5, 2) := by decide +kernel
theorem dX9_counterAt_76 : decode cX9_counterAt 76 = .ok (.iaload, 1) := by decide +kernel
theorem dX9_counterAt_77 : decode cX9_counterAt 77 = .ok (.iload_n 3, 1) := by decide +kernel
theorem dX9_counterAt_78 : decode cX9_counterAt 78 = .ok (.if_icmp .gt 54, 3) := by decide +kernel
theorem dX9_counterAt_81 : decode cX9_counterAt 81 = .ok (.aload_n 0, 1) := by decide +kernel
theorem dX9_counterAt_82 : decode cX9_counterAt 82 = .ok (.getfield 86, 3) := by decide +kernel
theorem dX9_counterAt_85 : decode cX9_counterAt 85 = .ok (.bipush 40, 2) := by decide +kernel
theorem dX9_counterAt_87 : decode cX9_counterAt 87 = .ok (.iload 5, 2) := by decide +kernel
theorem dX9_counterAt_89 : decode cX9_counterAt 89 = .ok (.imul, 1) := by decide +kernel
theorem dX9_counterAt_90 : decode cX9_counterAt 90 = .ok (.iload_n 1, 1) := by decide +kernel
theorem dX9_counterAt_91 : decode cX9_counterAt 91 = .ok (.iadd, 1) := by decide +kernel
theorem dX9_counterAt_92 : decode cX9_counterAt 92 = .ok (.iaload, 1) := by decide +kernel
theorem dX9_counterAt_93 : decode cX9_counterAt 93 = .ok (.aload_n 0, 1) := by decide +kernel
theorem dX9_counterAt_94 : decode cX9_counterAt 94 = .ok (.getfield 62, 3) := by decide +kernel
theorem dX9_counterAt_97 : decode cX9_counterAt 97 = .ok (.iload 5, 2) := by decide +kernel
theorem dX9_counterAt_99 : decode cX9_counterAt 99 = .ok (.iaload, 1) := by decide +kernel
theorem dX9_counterAt_100 : decode cX9_counterAt 100 = .ok (.if_icmp .eq 6, 3) := by decide +kernel
theorem dX9_counterAt_103 : decode cX9_counterAt 103 = .ok (.goto 29, 3) := by decide +kernel
theorem dX9_counterAt_106 : decode cX9_counterAt 106 = .ok (.iload 4, 2) := by decide +kernel
theorem dX9_counterAt_108 : decode cX9_counterAt 108 = .ok (.iload_n 2, 1) := by decide +kernel
theorem dX9_counterAt_109 : decode cX9_counterAt 109 = .ok (.ifCond .ne 13, 3) := by decide +kernel
theorem dX9_counterAt_112 : decode cX9_counterAt 112 = .ok (.aload_n 0, 1) := by decide +kernel
theorem dX9_counterAt_113 : decode cX9_counterAt 113 = .ok (.getfield 68, 3) := by decide +kernel
theorem dX9_counterAt_116 : decode cX9_counterAt 116 = .ok (.iload 5, 2) := by decide +kernel
theorem dX9_counterAt_118 : decode cX9_counterAt 118 = .ok (.iaload, 1) := by decide +kernel
theorem dX9_counterAt_119 : decode cX9_counterAt 119 = .ok (.goto 10, 3) := by decide +kernel
theorem dX9_counterAt_122 : decode cX9_counterAt 122 = .ok (.aload_n 0, 1) := by decide +kernel
theorem dX9_counterAt_123 : decode cX9_counterAt 123 = .ok (.getfield 71, 3) := by decide +kernel
theorem dX9_counterAt_126 : decode cX9_counterAt 126 = .ok (.iload 5, 2) := by decide +kernel
theorem dX9_counterAt_128 : decode cX9_counterAt 128 = .ok (.iaload, 1) := by decide +kernel
theorem dX9_counterAt_129 : decode cX9_counterAt 129 = .ok (.iadd, 1) := by decide +kernel
theorem dX9_counterAt_130 : decode cX9_counterAt 130 = .ok (.istore 4, 2) := by decide +kernel
theorem dX9_counterAt_132 : decode cX9_counterAt 132 = .ok (.iinc 5 1, 3) := by decide +kernel
theorem dX9_counterAt_135 : decode cX9_counterAt 135 = .ok (.goto (-94), 3) := by decide +kernel
theorem dX9_counterAt_138 : decode cX9_counterAt 138 = .ok (.iload 4, 2) := by decide +kernel
theorem dX9_counterAt_140 : decode cX9_counterAt 140 = .ok (.ireturn, 1) := by decide +kernel
theorem dX9_counter_0 : decode cX9_counter 0 = .ok (.aload_n 0, 1) := by decide +kernel
theorem dX9_counter_1 : decode cX9_counter 1 = .ok (.iconst 0, 1) := by decide +kernel
theorem dX9_counter_2 : decode cX9_counter 2 = .ok (.putfield 95, 3) := by decide +kernel
theorem dX9_counter_5 : decode cX9_counter 5 = .ok (.aload_n 0, 1) := by decide +kernel
theorem dX9_counter_6 : decode cX9_counter 6 = .ok (.iload_n 1, 1) := by decide +kernel
theorem dX9_counter_7 : decode cX9_counter 7 = .ok (.invokevirtual 104, 3) := by decide +kernel
theorem dX9_counter_10 : decode cX9_counter 10 = .ok (.ifCond .eq 35, 3) := by decide +kernel
theorem dX9_counter_13 : decode cX9_counter 13 = .ok (.iload_n 2, 1) := by decide +kernel
theorem dX9_counter_14 : decode cX9_counter 14 = .ok (.iconst 0, 1) := by decide +kernel
theorem dX9_counter_15 : decode cX9_counter 15 = .ok (.iconst 2, 1) := by decide +kernel
theorem dX9_counter_16 : decode cX9_counter 16 = .ok (.invokestatic 99, 3) := by decide +kernel
theorem dX9_counter_19 : decode cX9_counter 19 = .ok (.ifCond .eq 26, 3) := by decide +kernel
theorem dX9_counter_22 : decode cX9_counter 22 = .ok (.iload_n 3, 1) := by decide +kernel
theorem dX9_counter_23 : decode cX9_counter 23 = .ok (.invokestatic 115, 3) := by decide +kernel
theorem dX9_counter_26 : decode cX9_counter 26 = .ok (.ifCond .eq 19, 3) := by decide +kernel
theorem dX9_counter_29 : decode cX9_counter 29 = .ok (.aload_n 0, 1) := by decide +kernel
theorem dX9_counter_30 : decode cX9_counter 30 = .ok (.iload_n 1, 1) := by decide +kernel
theorem dX9_counter_31 : decode cX9_counter 31 = .ok (.iload_n 2, 1) := by decide +kernel
theorem dX9_counter_32 : decode cX9_counter 32 = .ok (.bipush 100, 2) := by decide +kernel
theorem dX9_counter_34 : decode cX9_counter 34 = .ok (.iload_n 3, 1) := by decide +kernel
theorem dX9_counter_35 : decode cX9_counter 35 = .ok (.imul, 1) := by decide +kernel
theorem dX9_counter_36 : decode cX9_counter 36 = .ok (.bipush 99, 2) := by decide +kernel
theorem dX9_counter_38 : decode cX9_counter 38 = .ok (.iadd, 1) := by decide +kernel
theorem dX9_counter_39 : decode cX9_counter 39 = .ok (.invokevirtual 192, 3) := by decide +kernel
theorem dX9_counter_42 : decode cX9_counter 42 = .ok (.goto 4, 3) := by decide +kernel
theorem dX9_counter_45 : decode cX9_counter 45 = .ok (.iconst 0, 1) := by decide +kernel
theorem dX9_counter_46 : decode cX9_counter 46 = .ok (.ireturn, 1) := by decide +kernel
theorem dX9_isOf_0 : decode cX9_isOf 0 = .ok (.aload_n 0, 1) := by decide +kernel
theorem dX9_isOf_1 : decode cX9_isOf 1 = .ok (.getfield 58, 3) := by decide +kernel
theorem dX9_isOf_4 : decode cX9_isOf 4 = .ok (.iload_n 1, 1) := by decide +kernel
theorem dX9_isOf_5 : decode cX9_isOf 5 = .ok (.baload, 1) := by decide +kernel
theorem dX9_isOf_6 : decode cX9_isOf 6 = .ok (.ifCond .eq 58, 3) := by decide +kernel
theorem dX9_isOf_9 : decode cX9_isOf 9 = .ok (.aload_n 0, 1) := by decide +kernel
theorem dX9_isOf_10 : decode cX9_isOf 10 = .ok (.getfield 55, 3) := by decide +kernel
theorem dX9_isOf_13 : decode cX9_isOf 13 = .ok (.iload_n 1, 1) := by decide +kernel
theorem dX9_isOf_14 : decode cX9_isOf 14 = .ok (.iaload, 1) := by decide +kernel
theorem dX9_isOf_15 : decode cX9_isOf 15 = .ok (.iconst 3, 1) := by decide +kernel
theorem dX9_isOf_16 : decode cX9_isOf 16 = .ok (.if_icmp .eq 13, 3) := by decide +kernel
theorem dX9_isOf_19 : decode cX9_isOf 19 = .ok (.aload_n 0, 1) := by decide +kernel
theorem dX9_isOf_20 : decode cX9_isOf 20 = .ok (.getfield 55, 3) := by decide +kernel
theorem dX9_isOf_23 : decode cX9_isOf 23 = .ok (.iload_n 1, 1) := by decide +kernel
theorem dX9_isOf_24 : decode cX9_isOf 24 = .ok (.iaload, 1) := by decide +kernel
theorem dX9_isOf_25 : decode cX9_isOf 25 = .ok (.iconst 4, 1) := by decide +kernel
theorem dX9_isOf_26 : decode cX9_isOf 26 = .ok (.if_icmp .ne 38, 3) := by decide +kernel
theorem dX9_isOf_29 : decode cX9_isOf 29 = .ok (.aload_n 0, 1) := by decide +kernel
theorem dX9_isOf_30 : decode cX9_isOf 30 = .ok (.getfield 62, 3) := by decide +kernel
theorem dX9_isOf_33 : decode cX9_isOf 33 = .ok (.iload_n 1, 1) := by decide +kernel
theorem dX9_isOf_34 : decode cX9_isOf 34 = .ok (.iaload, 1) := by decide +kernel
theorem dX9_isOf_35 : decode cX9_isOf 35 = .ok (.iload_n 2, 1) := by decide +kernel
theorem dX9_isOf_36 : decode cX9_isOf 36 = .ok (.if_icmp .ne 28, 3) := by decide +kernel
theorem dX9_isOf_39 : decode cX9_isOf 39 = .ok (.aload_n 0, 1) := by decide +kernel
theorem dX9_isOf_40 : decode cX9_isOf 40 = .ok (.getfield 68, 3) := by decide +kernel
theorem dX9_isOf_43 : decode cX9_isOf 43 = .ok (.iload_n 1, 1) := by decide +kernel
theorem dX9_isOf_44 : decode cX9_isOf 44 = .ok (.iaload, 1) := by decide +kernel
theorem dX9_isOf_45 : decode cX9_isOf 45 = .ok (.iload_n 3, 1) := by decide +kernel
theorem dX9_isOf_46 : decode cX9_isOf 46 = .ok (.if_icmp .ne 18, 3) := by decide +kernel
theorem dX9_isOf_49 : decode cX9_isOf 49 = .ok (.aload_n 0, 1) := by decide +kernel
theorem dX9_isOf_50 : decode cX9_isOf 50 = .ok (.getfield 65, 3) := by decide +kernel
theorem dX9_isOf_53 : decode cX9_isOf 53 = .ok (.iload_n 1, 1) := by decide +kernel
theorem dX9_isOf_54 : decode cX9_isOf 54 = .ok (.iaload, 1) := by decide +kernel
theorem dX9_isOf_55 : decode cX9_isOf 55 = .ok (.iload 4, 2) := by decide +kernel
theorem dX9_isOf_57 : decode cX9_isOf 57 = .ok (.if_icmp .gt 7, 3) := by decide +kernel
theorem dX9_isOf_60 : decode cX9_isOf 60 = .ok (.iconst 1, 1) := by decide +kernel
theorem dX9_isOf_61 : decode cX9_isOf 61 = .ok (.goto 4, 3) := by decide +kernel
theorem dX9_isOf_64 : decode cX9_isOf 64 = .ok (.iconst 0, 1) := by decide +kernel
theorem dX9_isOf_65 : decode cX9_isOf 65 = .ok (.ireturn, 1) := by decide +kernel
theorem dX9_isAfter_0 : decode cX9_isAfter 0 = .ok (.iload_n 0, 1) := by decide +kernel
theorem dX9_isAfter_1 : decode cX9_isAfter 1 = .ok (.iload_n 2, 1) := by decide +kernel
theorem dX9_isAfter_2 : decode cX9_isAfter 2 = .ok (.if_icmp .gt 13, 3) := by decide +kernel
theorem dX9_isAfter_5 : decode cX9_isAfter 5 = .ok (.iload_n 0, 1) := by decide +kernel
theorem dX9_isAfter_6 : decode cX9_isAfter 6 = .ok (.iload_n 2, 1) := by decide +kernel
theorem dX9_isAfter_7 : decode cX9_isAfter 7 = .ok (.if_icmp .ne 12, 3) := by decide +kernel
theorem dX9_isAfter_10 : decode cX9_isAfter 10 = .ok (.iload_n 1, 1) := by decide +kernel
theorem dX9_isAfter_11 : decode cX9_isAfter 11 = .ok (.iload_n 3, 1) := by decide +kernel
theorem dX9_isAfter_12 : decode cX9_isAfter 12 = .ok (.if_icmp .le 7, 3) := by decide +kernel
theorem dX9_isAfter_15 : decode cX9_isAfter 15 = .ok (.iconst 1, 1) := by decide +kernel
theorem dX9_isAfter_16 : decode cX9_isAfter 16 = .ok (.goto 4, 3) := by decide +kernel
theorem dX9_isAfter_19 : decode cX9_isAfter 19 = .ok (.iconst 0, 1) := by decide +kernel
theorem dX9_isAfter_20 : decode cX9_isAfter 20 = .ok (.ireturn, 1) := by decide +kernel
theorem dX9_amount_0 : decode cX9_amount 0 = .ok (.iload_n 2, 1) := by decide +kernel
theorem dX9_amount_1 : decode cX9_amount 1 = .ok (.ifCond .ne 12, 3) := by decide +kernel
theorem dX9_amount_4 : decode cX9_amount 4 = .ok (.aload_n 0, 1) := by decide +kernel
theorem dX9_amount_5 : decode cX9_amount 5 = .ok (.getfield 71, 3) := by decide +kernel
theorem dX9_amount_8 : decode cX9_amount 8 = .ok (.iload_n 1, 1) := by decide +kernel
theorem dX9_amount_9 : decode cX9_amount 9 = .ok (.iaload, 1) := by decide +kernel
theorem dX9_amount_10 : decode cX9_amount 10 = .ok (.goto 31, 3) := by decide +kernel
theorem dX9_amount_13 : decode cX9_amount 13 = .ok (.iload_n 2, 1) := by decide +kernel
theorem dX9_amount_14 : decode cX9_amount 14 = .ok (.iconst 1, 1) := by decide +kernel
theorem dX9_amount_15 : decode cX9_amount 15 = .ok (.if_icmp .ne 16, 3) := by decide +kernel
theorem dX9_amount_18 : decode cX9_amount 18 = .ok (.aload_n 0, 1) := by decide +kernel
theorem dX9_amount_19 : decode cX9_amount 19 = .ok (.getfield 74, 3) := by decide +kernel
theorem dX9_amount_22 : decode cX9_amount 22 = .ok (.iload_n 1, 1) := by decide +kernel
theorem dX9_amount_23 : decode cX9_amount 23 = .ok (.iaload, 1) := by decide +kernel
theorem dX9_amount_24 : decode cX9_amount 24 = .ok (.sipush 10001, 3) := by decide +kernel
theorem dX9_amount_27 : decode cX9_amount 27 = .ok (.idiv, 1) := by decide +kernel
theorem dX9_amount_28 : decode cX9_amount 28 = .ok (.goto 13, 3) := by decide +kernel
theorem dX9_amount_31 : decode cX9_amount 31 = .ok (.aload_n 0, 1) := by decide +kernel
theorem dX9_amount_32 : decode cX9_amount 32 = .ok (.getfield 74, 3) := by decide +kernel
theorem dX9_amount_35 : decode cX9_amount 35 = .ok (.iload_n 1, 1) := by decide +kernel
theorem dX9_amount_36 : decode cX9_amount 36 = .ok (.iaload, 1) := by decide +kernel
theorem dX9_amount_37 : decode cX9_amount 37 = .ok (.sipush 10001, 3) := by decide +kernel
theorem dX9_amount_40 : decode cX9_amount 40 = .ok (.irem, 1) := by decide +kernel
theorem dX9_amount_41 : decode cX9_amount 41 = .ok (.ireturn, 1) := by decide +kernel
theorem dX9_dueAt_0 : decode cX9_dueAt 0 = .ok (.aload_n 0, 1) := by decide +kernel
theorem dX9_dueAt_1 : decode cX9_dueAt 1 = .ok (.getfield 34, 3) := by decide +kernel
theorem dX9_dueAt_4 : decode cX9_dueAt 4 = .ok (.iconst 3, 1) := by decide +kernel
theorem dX9_dueAt_5 : decode cX9_dueAt 5 = .ok (.iload_n 2, 1) := by decide +kernel
theorem dX9_dueAt_6 : decode cX9_dueAt 6 = .ok (.imul, 1) := by decide +kernel
theorem dX9_dueAt_7 : decode cX9_dueAt 7 = .ok (.iload_n 3, 1) := by decide +kernel
theorem dX9_dueAt_8 : decode cX9_dueAt 8 = .ok (.iadd, 1) := by decide +kernel
theorem dX9_dueAt_9 : decode cX9_dueAt 9 = .ok (.iaload, 1) := by decide +kernel
theorem dX9_dueAt_10 : decode cX9_dueAt 10 = .ok (.istore 5, 2) := by decide +kernel
theorem dX9_dueAt_12 : decode cX9_dueAt 12 = .ok (.iload 5, 2) := by decide +kernel
theorem dX9_dueAt_14 : decode cX9_dueAt 14 = .ok (.iload_n 3, 1) := by decide +kernel
theorem dX9_dueAt_15 : decode cX9_dueAt 15 = .ok (.ifCond .ne 12, 3) := by decide +kernel
theorem dX9_dueAt_18 : decode cX9_dueAt 18 = .ok (.aload_n 0, 1) := by decide +kernel
theorem dX9_dueAt_19 : decode cX9_dueAt 19 = .ok (.getfield 22, 3) := by decide +kernel
theorem dX9_dueAt_22 : decode cX9_dueAt 22 = .ok (.iload_n 1, 1) := by decide +kernel
theorem dX9_dueAt_23 : decode cX9_dueAt 23 = .ok (.iaload, 1) := by decide +kernel
theorem dX9_dueAt_24 : decode cX9_dueAt 24 = .ok (.goto 18, 3) := by decide +kernel
theorem dX9_dueAt_27 : decode cX9_dueAt 27 = .ok (.iload_n 3, 1) := by decide +kernel
theorem dX9_dueAt_28 : decode cX9_dueAt 28 = .ok (.iconst 1, 1) := by decide +kernel
theorem dX9_dueAt_29 : decode cX9_dueAt 29 = .ok (.if_icmp .ne 12, 3) := by decide +kernel
theorem dX9_dueAt_32 : decode cX9_dueAt 32 = .ok (.aload_n 0, 1) := by decide +kernel
theorem dX9_dueAt_33 : decode cX9_dueAt 33 = .ok (.getfield 25, 3) := by decide +kernel
theorem dX9_dueAt_36 : decode cX9_dueAt 36 = .ok (.iload_n 1, 1) := by decide +kernel
theorem dX9_dueAt_37 : decode cX9_dueAt 37 = .ok (.iaload, 1) := by decide +kernel
theorem dX9_dueAt_38 : decode cX9_dueAt 38 = .ok (.goto 4, 3) := by decide +kernel
theorem dX9_dueAt_41 : decode cX9_dueAt 41 = .ok (.iconst 0, 1) := by decide +kernel
theorem dX9_dueAt_42 : decode cX9_dueAt 42 = .ok (.iadd, 1) := by decide +kernel
theorem dX9_dueAt_43 : decode cX9_dueAt 43 = .ok (.istore 6, 2) := by decide +kernel
theorem dX9_dueAt_45 : decode cX9_dueAt 45 = .ok (.iconst 0, 1) := by decide +kernel
theorem dX9_dueAt_46 : decode cX9_dueAt 46 = .ok (.istore 7, 2) := by decide +kernel
theorem dX9_dueAt_48 : decode cX9_dueAt 48 = .ok (.iconst (-1), 1) := by decide +kernel
theorem dX9_dueAt_49 : decode cX9_dueAt 49 = .ok (.istore 8, 2) := by decide +kernel
theorem dX9_dueAt_51 : decode cX9_dueAt 51 = .ok (.iconst (-1), 1) := by decide +kernel
theorem dX9_dueAt_52 : decode cX9_dueAt 52 = .ok (.istore 9, 2) := by decide +kernel
theorem dX9_dueAt_54 : decode cX9_dueAt 54 = .ok (.iconst 1, 1) := by decide +kernel
theorem dX9_dueAt_55 : decode cX9_dueAt 55 = .ok (.istore 10, 2) := by decide +kernel
theorem dX9_dueAt_57 : decode cX9_dueAt 57 = .ok (.iload 10, 2) := by decide +kernel
theorem dX9_dueAt_59 : decode cX9_dueAt 59 = .ok (.ifCond .eq 233, 3) := by decide +kernel
theorem dX9_dueAt_62 : decode cX9_dueAt 62 = .ok (.iconst (-1), 1) := by decide +kernel
theorem dX9_dueAt_63 : decode cX9_dueAt 63 = .ok (.istore 11, 2) := by decide +kernel
theorem dX9_dueAt_65 : decode cX9_dueAt 65 = .ok (.iconst 0, 1) := by decide +kernel
theorem dX9_dueAt_66 : decode cX9_dueAt 66 = .ok (.istore 12, 2) := by decide +kernel
theorem dX9_dueAt_68 : decode cX9_dueAt 68 = .ok (.iload 12, 2) := by decide +kernel
theorem dX9_dueAt_70 : decode cX9_dueAt 70 = .ok (.aload_n 0, 1) := by decide +kernel
theorem dX9_dueAt_71 : decode cX9_dueAt 71 = .ok (.getfield 126, 3) := by decide +kernel
theorem dX9_dueAt_74 : decode cX9_dueAt 74 = .ok (.if_icmp .ge 78, 3) := by decide +kernel
theorem dX9_dueAt_77 : decode cX9_dueAt 77 = .ok (.aload_n 0, 1) := by decide +kernel
theorem dX9_dueAt_78 : decode cX9_dueAt 78 = .ok (.iload 12, 2) := by decide +kernel
theorem dX9_dueAt_80 : decode cX9_dueAt 80 = .ok (.iload_n 1, 1) := by decide +kernel
theorem dX9_dueAt_81 : decode cX9_dueAt 81 = .ok (.iload_n 2, 1) := by decide +kernel
theorem dX9_dueAt_82 : decode cX9_dueAt 82 = .ok (.iload 4, 2) := by decide +kernel
theorem dX9_dueAt_84 : decode cX9_dueAt 84 = .ok (.invokevirtual 196, 3) := by decide +kernel
theorem dX9_dueAt_87 : decode cX9_dueAt 87 = .ok (.ifCond .eq 59, 3) := by decide +kernel
theorem dX9_dueAt_90 : decode cX9_dueAt 90 = .ok (.aload_n 0, 1) := by decide +kernel
theorem dX9_dueAt_91 : decode cX9_dueAt 91 = .ok (.getfield 65, 3) := by decide +kernel
theorem dX9_dueAt_94 : decode cX9_dueAt 94 = .ok (.iload 12, 2) := by decide +kernel
theorem dX9_dueAt_96 : decode cX9_dueAt 96 = .ok (.iaload, 1) := by decide +kernel
theorem dX9_dueAt_97 : decode cX9_dueAt 97 = .ok (.iload 12, 2) := by decide +kernel
theorem dX9_dueAt_99 : decode cX9_dueAt 99 = .ok (.iload 8, 2) := by decide +kernel
theorem dX9_dueAt_101 : decode cX9_dueAt 101 = .ok (.iload 9, 2) := by decide +kernel
theorem dX9_dueAt_103 : decode cX9_dueAt 103 = .ok (.invokestatic 200, 3) := by decide +kernel
theorem dX9_dueAt_106 : decode cX9_dueAt 106 = .ok (.ifCond .ne 6, 3) := by decide +kernel
theorem dX9_dueAt_109 : decode cX9_dueAt 109 = .ok (.goto 37, 3) := by decide +kernel
theorem dX9_dueAt_112 : decode cX9_dueAt 112 = .ok (.iload 11, 2) := by decide +kernel
theorem dX9_dueAt_114 : decode cX9_dueAt 114 = .ok (.iconst (-1), 1) := by decide +kernel
theorem dX9_dueAt_115 : decode cX9_dueAt 115 = .ok (.if_icmp .eq 27, 3) := by decide +kernel
theorem dX9_dueAt_118 : decode cX9_dueAt 118 = .ok (.aload_n 0, 1) := by decide +kernel
theorem dX9_dueAt_119 : decode cX9_dueAt 119 = .ok (.getfield 65, 3) := by decide +kernel
theorem dX9_dueAt_122 : decode cX9_dueAt 122 = .ok (.iload 11, 2) := by decide +kernel
theorem dX9_dueAt_124 : decode cX9_dueAt 124 = .ok (.iaload, 1) := by decide +kernel
theorem dX9_dueAt_125 : decode cX9_dueAt 125 = .ok (.iload 11, 2) := by decide +kernel
theorem dX9_dueAt_127 : decode cX9_dueAt 127 = .ok (.aload_n 0, 1) := by decide +kernel
theorem dX9_dueAt_128 : decode cX9_dueAt 128 = .ok (.getfield 65, 3) := by decide +kernel
theorem dX9_dueAt_131 : decode cX9_dueAt 131 = .ok (.iload 12, 2) := by decide +kernel
theorem dX9_dueAt_133 : decode cX9_dueAt 133 = .ok (.iaload, 1) := by decide +kernel
theorem dX9_dueAt_134 : decode cX9_dueAt 134 = .ok (.iload 12, 2) := by decide +kernel
theorem dX9_dueAt_136 : decode cX9_dueAt 136 = .ok (.invokestatic 200, 3) := by decide +kernel
theorem dX9_dueAt_139 : decode cX9_dueAt 139 = .ok (.ifCond .eq 7, 3) := by decide +kernel
theorem dX9_dueAt_142 : decode cX9_dueAt 142 = .ok (.iload 12, 2) := by decide +kernel
theorem dX9_dueAt_144 : decode cX9_dueAt 144 = .ok (.istore 11, 2) := by decide +kernel
theorem dX9_dueAt_146 : decode cX9_dueAt 146 = .ok (.iinc 12 1, 3) := by decide +kernel
theorem dX9_dueAt_149 : decode cX9_dueAt 149 = .ok (.goto (-81), 3) := by decide +kernel
theorem dX9_dueAt_152 : decode cX9_dueAt 152 = .ok (.iload 11, 2) := by decide +kernel
theorem dX9_dueAt_154 : decode cX9_dueAt 154 = .ok (.iconst (-1), 1) := by decide +kernel
theorem dX9_dueAt_155 : decode cX9_dueAt 155 = .ok (.if_icmp .eq 7, 3) := by decide +kernel
theorem dX9_dueAt_158 : decode cX9_dueAt 158 = .ok (.iconst 1, 1) := by decide +kernel
theorem dX9_dueAt_159 : decode cX9_dueAt 159 = .ok (.goto 4, 3) := by decide +kernel
theorem dX9_dueAt_162 : decode cX9_dueAt 162 = .ok (.iconst 0, 1) := by decide +kernel
theorem dX9_dueAt_163 : decode cX9_dueAt 163 = .ok (.istore 10, 2) := by decide +kernel
theorem dX9_dueAt_165 : decode cX9_dueAt 165 = .ok (.iload 10, 2) := by decide +kernel
theorem dX9_dueAt_167 : decode cX9_dueAt 167 = .ok (.ifCond .ne 6, 3) := by decide +kernel
theorem dX9_dueAt_170 : decode cX9_dueAt 170 = .ok (.goto (-113), 3) := by decide +kernel
theorem dX9_dueAt_173 : decode cX9_dueAt 173 = .ok (.aload_n 0, 1) := by decide +kernel
theorem dX9_dueAt_174 : decode cX9_dueAt 174 = .ok (.getfield 65, 3) := by decide +kernel
theorem dX9_dueAt_177 : decode cX9_dueAt 177 = .ok (.iload 11, 2) := by decide +kernel
theorem dX9_dueAt_179 : decode cX9_dueAt 179 = .ok (.iaload, 1) := by decide +kernel
theorem dX9_dueAt_180 : decode cX9_dueAt 180 = .ok (.istore 8, 2) := by decide +kernel
theorem dX9_dueAt_182 : decode cX9_dueAt 182 = .ok (.iload 11, 2) := by decide +kernel
theorem dX9_dueAt_184 : decode cX9_dueAt 184 = .ok (.istore 9, 2) := by decide +kernel
theorem dX9_dueAt_186 : decode cX9_dueAt 186 = .ok (.aload_n 0, 1) := by decide +kernel
theorem dX9_dueAt_187 : decode cX9_dueAt 187 = .ok (.getfield 55, 3) := by decide +kernel
theorem dX9_dueAt_190 : decode cX9_dueAt 190 = .ok (.iload 11, 2) := by decide +kernel
theorem dX9_dueAt_192 : decode cX9_dueAt 192 = .ok (.iaload, 1) := by decide +kernel
theorem dX9_dueAt_193 : decode cX9_dueAt 193 = .ok (.iconst 4, 1) := by decide +kernel
theorem dX9_dueAt_194 : decode cX9_dueAt 194 = .ok (.if_icmp .ne 30, 3) := by decide +kernel
theorem dX9_dueAt_197 : decode cX9_dueAt 197 = .ok (.iload 6, 2) := by decide +kernel
theorem dX9_dueAt_199 : decode cX9_dueAt 199 = .ok (.iload 7, 2) := by decide +kernel
theorem dX9_dueAt_201 : decode cX9_dueAt 201 = .ok (.ifCond .eq 7, 3) := by decide +kernel
theorem dX9_dueAt_204 : decode cX9_dueAt 204 = .ok (.iconst 0, 1) := by decide +kernel
theorem dX9_dueAt_205 : decode cX9_dueAt 205 = .ok (.goto 10, 3) := by decide +kernel
theorem dX9_dueAt_208 : decode cX9_dueAt 208 = .ok (.aload_n 0, 1) := by decide +kernel
theorem dX9_dueAt_209 : decode cX9_dueAt 209 = .ok (.iload 11, 2) := by decide +kernel
theorem dX9_dueAt_211 : decode cX9_dueAt 211 = .ok (.iload_n 3, 1) := by decide +kernel
theorem dX9_dueAt_212 : decode cX9_dueAt 212 = .ok (.invokevirtual 203, 3) := by decide +kernel
theorem dX9_dueAt_215 : decode cX9_dueAt 215 = .ok (.iadd, 1) := by decide +kernel
theorem dX9_dueAt_216 : decode cX9_dueAt 216 = .ok (.istore 6, 2) := by decide +kernel
theorem dX9_dueAt_218 : decode cX9_dueAt 218 = .ok (.iconst 1, 1) := by decide +kernel
theorem dX9_dueAt_219 : decode cX9_dueAt 219 = .ok (.istore 7, 2) := by decide +kernel
theorem dX9_dueAt_221 : decode cX9_dueAt 221 = .ok (.goto (-164), 3) := by decide +kernel
theorem dX9_dueAt_224 : decode cX9_dueAt 224 = .ok (.iconst 0, 1) := by decide +kernel
theorem dX9_dueAt_225 : decode cX9_dueAt 225 = .ok (.istore 7, 2) := by decide +kernel
theorem dX9_dueAt_227 : decode cX9_dueAt 227 = .ok (.aload_n 0, 1) := by decide +kernel
theorem dX9_dueAt_228 : decode cX9_dueAt 228 = .ok (.iload_n 1, 1) := by decide +kernel
theorem dX9_dueAt_229 : decode cX9_dueAt 229 = .ok (.iload_n 3, 1) := by decide +kernel
theorem dX9_dueAt_230 : decode cX9_dueAt 230 = .ok (.iload 8, 2) := by decide +kernel
theorem dX9_dueAt_232 : decode cX9_dueAt 232 = .ok (.invokevirtual 192, 3) := by decide +kernel
theorem dX9_dueAt_235 : decode cX9_dueAt 235 = .ok (.istore 12, 2) := by decide +kernel
theorem dX9_dueAt_237 : decode cX9_dueAt 237 = .ok (.iload 12, 2) := by decide +kernel
theorem dX9_dueAt_239 : decode cX9_dueAt 239 = .ok (.iload 6, 2) := by decide +kernel
theorem dX9_dueAt_241 : decode cX9_dueAt 241 = .ok (.if_icmp .le 28, 3) := by decide +kernel
theorem dX9_dueAt_244 : decode cX9_dueAt 244 = .ok (.iload 12, 2) := by decide +kernel
theorem dX9_dueAt_246 : decode cX9_dueAt 246 = .ok (.iload 6, 2) := by decide +kernel
theorem dX9_dueAt_248 : decode cX9_dueAt 248 = .ok (.isub, 1) := by decide +kernel
theorem dX9_dueAt_249 : decode cX9_dueAt 249 = .ok (.iload 5, 2) := by decide +kernel
theorem dX9_dueAt_251 : decode cX9_dueAt 251 = .ok (.aload_n 0, 1) := by decide +kernel
theorem dX9_dueAt_252 : decode cX9_dueAt 252 = .ok (.getfield 37, 3) := by decide +kernel
theorem dX9_dueAt_255 : decode cX9_dueAt 255 = .ok (.iload_n 2, 1) := by decide +kernel
theorem dX9_dueAt_256 : decode cX9_dueAt 256 = .ok (.iaload, 1) := by decide +kernel
theorem dX9_dueAt_257 : decode cX9_dueAt 257 = .ok (.imul, 1) := by decide +kernel
theorem dX9_dueAt_258 : decode cX9_dueAt 258 = .ok (.sipush 1000, 3) := by decide +kernel
theorem dX9_dueAt_261 : decode cX9_dueAt 261 = .ok (.idiv, 1) := by decide +kernel
theorem dX9_dueAt_262 : decode cX9_dueAt 262 = .ok (.if_icmp .gt 7, 3) := by decide +kernel
theorem dX9_dueAt_265 : decode cX9_dueAt 265 = .ok (.iconst 1, 1) := by decide +kernel
theorem dX9_dueAt_266 : decode cX9_dueAt 266 = .ok (.goto 4, 3) := by decide +kernel
theorem dX9_dueAt_269 : decode cX9_dueAt 269 = .ok (.iconst 0, 1) := by decide +kernel
theorem dX9_dueAt_270 : decode cX9_dueAt 270 = .ok (.istore 13, 2) := by decide +kernel
theorem dX9_dueAt_272 : decode cX9_dueAt 272 = .ok (.iload 13, 2) := by decide +kernel
theorem dX9_dueAt_274 : decode cX9_dueAt 274 = .ok (.ifCond .eq 8, 3) := by decide +kernel
theorem dX9_dueAt_277 : decode cX9_dueAt 277 = .ok (.iload 6, 2) := by decide +kernel
theorem dX9_dueAt_279 : decode cX9_dueAt 279 = .ok (.goto 5, 3) := by decide +kernel
theorem dX9_dueAt_282 : decode cX9_dueAt 282 = .ok (.iload 12, 2) := by decide +kernel
theorem dX9_dueAt_284 : decode cX9_dueAt 284 = .ok (.iload 5, 2) := by decide +kernel
theorem dX9_dueAt_286 : decode cX9_dueAt 286 = .ok (.iadd, 1) := by decide +kernel
theorem dX9_dueAt_287 : decode cX9_dueAt 287 = .ok (.istore 6, 2) := by decide +kernel
theorem dX9_dueAt_289 : decode cX9_dueAt 289 = .ok (.goto (-232), 3) := by decide +kernel
theorem dX9_dueAt_292 : decode cX9_dueAt 292 = .ok (.iload 6, 2) := by decide +kernel
theorem dX9_dueAt_294 : decode cX9_dueAt 294 = .ok (.ireturn, 1) := by decide +kernel
theorem dX9_due_0 : decode cX9_due 0 = .ok (.aload_n 0, 1) := by decide +kernel
theorem dX9_due_1 : decode cX9_due 1 = .ok (.iconst 0, 1) := by decide +kernel
theorem dX9_due_2 : decode cX9_due 2 = .ok (.putfield 95, 3) := by decide +kernel
theorem dX9_due_5 : decode cX9_due 5 = .ok (.aload_n 0, 1) := by decide +kernel
theorem dX9_due_6 : decode cX9_due 6 = .ok (.iload_n 1, 1) := by decide +kernel
theorem dX9_due_7 : decode cX9_due 7 = .ok (.invokevirtual 104, 3) := by decide +kernel
theorem dX9_due_10 : decode cX9_due 10 = .ok (.ifCond .eq 41, 3) := by decide +kernel
theorem dX9_due_13 : decode cX9_due 13 = .ok (.aload_n 0, 1) := by decide +kernel
theorem dX9_due_14 : decode cX9_due 14 = .ok (.iload_n 2, 1) := by decide +kernel
theorem dX9_due_15 : decode cX9_due 15 = .ok (.invokevirtual 120, 3) := by decide +kernel
theorem dX9_due_18 : decode cX9_due 18 = .ok (.ifCond .eq 33, 3) := by decide +kernel
theorem dX9_due_21 : decode cX9_due 21 = .ok (.iload_n 3, 1) := by decide +kernel
theorem dX9_due_22 : decode cX9_due 22 = .ok (.iconst 0, 1) := by decide +kernel
theorem dX9_due_23 : decode cX9_due 23 = .ok (.iconst 2, 1) := by decide +kernel
theorem dX9_due_24 : decode cX9_due 24 = .ok (.invokestatic 99, 3) := by decide +kernel
theorem dX9_due_27 : decode cX9_due 27 = .ok (.ifCond .eq 24, 3) := by decide +kernel
theorem dX9_due_30 : decode cX9_due 30 = .ok (.iload 4, 2) := by decide +kernel
theorem dX9_due_32 : decode cX9_due 32 = .ok (.invokestatic 115, 3) := by decide +kernel
theorem dX9_due_35 : decode cX9_due 35 = .ok (.ifCond .eq 16, 3) := by decide +kernel
theorem dX9_due_38 : decode cX9_due 38 = .ok (.aload_n 0, 1) := by decide +kernel
theorem dX9_due_39 : decode cX9_due 39 = .ok (.getfield 34, 3) := by decide +kernel
theorem dX9_due_42 : decode cX9_due 42 = .ok (.iconst 3, 1) := by decide +kernel
theorem dX9_due_43 : decode cX9_due 43 = .ok (.iload_n 2, 1) := by decide +kernel
theorem dX9_due_44 : decode cX9_due 44 = .ok (.imul, 1) := by decide +kernel
theorem dX9_due_45 : decode cX9_due 45 = .ok (.iload_n 3, 1) := by decide +kernel
theorem dX9_due_46 : decode cX9_due 46 = .ok (.iadd, 1) := by decide +kernel
theorem dX9_due_47 : decode cX9_due 47 = .ok (.iaload, 1) := by decide +kernel
theorem dX9_due_48 : decode cX9_due 48 = .ok (.ifCond .ne 5, 3) := by decide +kernel
theorem dX9_due_51 : decode cX9_due 51 = .ok (.iconst (-1), 1) := by decide +kernel
theorem dX9_due_52 : decode cX9_due 52 = .ok (.ireturn, 1) := by decide +kernel
theorem dX9_due_53 : decode cX9_due 53 = .ok (.aload_n 0, 1) := by decide +kernel
theorem dX9_due_54 : decode cX9_due 54 = .ok (.iload_n 1, 1) := by decide +kernel
theorem dX9_due_55 : decode cX9_due 55 = .ok (.iload_n 2, 1) := by decide +kernel
theorem dX9_due_56 : decode cX9_due 56 = .ok (.iload_n 3, 1) := by decide +kernel
theorem dX9_due_57 : decode cX9_due 57 = .ok (.bipush 100, 2) := by decide +kernel
theorem dX9_due_59 : decode cX9_due 59 = .ok (.iload 4, 2) := by decide +kernel
theorem dX9_due_61 : decode cX9_due 61 = .ok (.imul, 1) := by decide +kernel
theorem dX9_due_62 : decode cX9_due 62 = .ok (.bipush 99, 2) := by decide +kernel
theorem dX9_due_64 : decode cX9_due 64 = .ok (.iadd, 1) := by decide +kernel
theorem dX9_due_65 : decode cX9_due 65 = .ok (.invokevirtual 206, 3) := by decide +kernel
theorem dX9_due_68 : decode cX9_due 68 = .ok (.ireturn, 1) := by decide +kernel
theorem dX9_isOverdue_0 : decode cX9_isOverdue 0 = .ok (.iconst 0, 1) := by decide +kernel
theorem dX9_isOverdue_1 : decode cX9_isOverdue 1 = .ok (.istore 4, 2) := by decide +kernel
theorem dX9_isOverdue_3 : decode cX9_isOverdue 3 = .ok (.iload 4, 2) := by decide +kernel
theorem dX9_isOverdue_5 : decode cX9_isOverdue 5 = .ok (.iconst 3, 1) := by decide +kernel
theorem dX9_isOverdue_6 : decode cX9_isOverdue 6 = .ok (.if_icmp .ge 45, 3) := by decide +kernel
theorem dX9_isOverdue_9 : decode cX9_isOverdue 9 = .ok (.aload_n 0, 1) := by decide +kernel
theorem dX9_isOverdue_10 : decode cX9_isOverdue 10 = .ok (.getfield 34, 3) := by decide +kernel
theorem dX9_isOverdue_13 : decode cX9_isOverdue 13 = .ok (.iconst 3, 1) := by decide +kernel
theorem dX9_isOverdue_14 : decode cX9_isOverdue 14 = .ok (.iload_n 2, 1) := by decide +kernel
theorem dX9_isOverdue_15 : decode cX9_isOverdue 15 = .ok (.imul, 1) := by decide +kernel
theorem dX9_isOverdue_16 : decode cX9_isOverdue 16 = .ok (.iload 4, 2) := by decide +kernel
theorem dX9_isOverdue_18 : decode cX9_isOverdue 18 = .ok (.iadd, 1) := by decide +kernel
theorem dX9_isOverdue_19 : decode cX9_isOverdue 19 = .ok (.iaload, 1) := by decide +kernel
theorem dX9_isOverdue_20 : decode cX9_isOverdue 20 = .ok (.ifCond .le 25, 3) := by decide +kernel
theorem dX9_isOverdue_23 : decode cX9_isOverdue 23 = .ok (.aload_n 0, 1) := by decide +kernel
theorem dX9_isOverdue_24 : decode cX9_isOverdue 24 = .ok (.iload_n 1, 1) := by decide +kernel
theorem dX9_isOverdue_25 : decode cX9_isOverdue 25 = .ok (.iload 4, 2) := by decide +kernel
theorem dX9_isOverdue_27 : decode cX9_isOverdue 27 = .ok (.iload_n 3, 1) := by decide +kernel
theorem dX9_isOverdue_28 : decode cX9_isOverdue 28 = .ok (.invokevirtual 192, 3) := by decide +kernel
theorem dX9_isOverdue_31 : decode cX9_isOverdue 31 = .ok (.aload_n 0, 1) := by decide +kernel
theorem dX9_isOverdue_32 : decode cX9_isOverdue 32 = .ok (.iload_n 1, 1) := by decide +kernel
theorem dX9_isOverdue_33 : decode cX9_isOverdue 33 = .ok (.iload_n 2, 1) := by decide +kernel
theorem dX9_isOverdue_34 : decode cX9_isOverdue 34 = .ok (.iload 4, 2) := by decide +kernel
theorem dX9_isOverdue_36 : decode cX9_isOverdue 36 = .ok (.iload_n 3, 1) := by decide +kernel
theorem dX9_isOverdue_37 : decode cX9_isOverdue 37 = .ok (.invokevirtual 206, 3) := by decide +kernel
theorem dX9_isOverdue_40 : decode cX9_isOverdue 40 = .ok (.if_icmp .le 5, 3) := by decide +kernel
theorem dX9_isOverdue_43 : decode cX9_isOverdue 43 = .ok (.iconst 1, 1) := by decide +kernel
theorem dX9_isOverdue_44 : decode cX9_isOverdue 44 = .ok (.ireturn, 1) := by decide +kernel
theorem dX9_isOverdue_45 : decode cX9_isOverdue 45 = .ok (.iinc 4 1, 3) := by decide +kernel
theorem dX9_isOverdue_48 : decode cX9_isOverdue 48 = .ok (.goto (-45), 3) := by decide +kernel
theorem dX9_isOverdue_51 : decode cX9_isOverdue 51 = .ok (.iconst 0, 1) := by decide +kernel
theorem dX9_isOverdue_52 : decode cX9_isOverdue 52 = .ok (.ireturn, 1) := by decide +kernel
theorem dX9_binds_0 : decode cX9_binds 0 = .ok (.aload_n 0, 1) := by decide +kernel
theorem dX9_binds_1 : decode cX9_binds 1 = .ok (.getfield 40, 3) := by decide +kernel
theorem dX9_binds_4 : decode cX9_binds 4 = .ok (.iload_n 1, 1) := by decide +kernel
theorem dX9_binds_5 : decode cX9_binds 5 = .ok (.iaload, 1) := by decide +kernel
theorem dX9_binds_6 : decode cX9_binds 6 = .ok (.iconst (-1), 1) := by decide +kernel
theorem dX9_binds_7 : decode cX9_binds 7 = .ok (.if_icmp .eq 37, 3) := by decide +kernel
theorem dX9_binds_10 : decode cX9_binds 10 = .ok (.aload_n 0, 1) := by decide +kernel
theorem dX9_binds_11 : decode cX9_binds 11 = .ok (.getfield 40, 3) := by decide +kernel
theorem dX9_binds_14 : decode cX9_binds 14 = .ok (.iload_n 1, 1) := by decide +kernel
theorem dX9_binds_15 : decode cX9_binds 15 = .ok (.iaload, 1) := by decide +kernel
theorem dX9_binds_16 : decode cX9_binds 16 = .ok (.aload_n 0, 1) := by decide +kernel
theorem dX9_binds_17 : decode cX9_binds 17 = .ok (.getfield 19, 3) := by decide +kernel
theorem dX9_binds_20 : decode cX9_binds 20 = .ok (.iload_n 2, 1) := by decide +kernel
theorem dX9_binds_21 : decode cX9_binds 21 = .ok (.iaload, 1) := by decide +kernel
theorem dX9_binds_22 : decode cX9_binds 22 = .ok (.if_icmp .ne 22, 3) := by decide +kernel
theorem dX9_binds_25 : decode cX9_binds 25 = .ok (.iload_n 2, 1) := by decide +kernel
theorem dX9_binds_26 : decode cX9_binds 26 = .ok (.aload_n 0, 1) := by decide +kernel
theorem dX9_binds_27 : decode cX9_binds 27 = .ok (.getfield 43, 3) := by decide +kernel
theorem dX9_binds_30 : decode cX9_binds 30 = .ok (.iload_n 1, 1) := by decide +kernel
theorem dX9_binds_31 : decode cX9_binds 31 = .ok (.iaload, 1) := by decide +kernel
theorem dX9_binds_32 : decode cX9_binds 32 = .ok (.aload_n 0, 1) := by decide +kernel
theorem dX9_binds_33 : decode cX9_binds 33 = .ok (.getfield 46, 3) := by decide +kernel
theorem dX9_binds_36 : decode cX9_binds 36 = .ok (.iload_n 1, 1) := by decide +kernel
theorem dX9_binds_37 : decode cX9_binds 37 = .ok (.iaload, 1) := by decide +kernel
theorem dX9_binds_38 : decode cX9_binds 38 = .ok (.invokestatic 99, 3) := by decide +kernel
theorem dX9_binds_41 : decode cX9_binds 41 = .ok (.ifCond .ne 5, 3) := by decide +kernel
theorem dX9_binds_44 : decode cX9_binds 44 = .ok (.iconst 0, 1) := by decide +kernel
theorem dX9_binds_45 : decode cX9_binds 45 = .ok (.ireturn, 1) := by decide +kernel
theorem dX9_binds_46 : decode cX9_binds 46 = .ok (.iconst 0, 1) := by decide +kernel
theorem dX9_binds_47 : decode cX9_binds 47 = .ok (.istore 4, 2) := by decide +kernel
theorem dX9_binds_49 : decode cX9_binds 49 = .ok (.iload 4, 2) := by decide +kernel
theorem dX9_binds_51 : decode cX9_binds 51 = .ok (.aload_n 0, 1) := by decide +kernel
theorem dX9_binds_52 : decode cX9_binds 52 = .ok (.getfield 126, 3) := by decide +kernel
theorem dX9_binds_55 : decode cX9_binds 55 = .ok (.if_icmp .ge 65, 3) := by decide +kernel
theorem dX9_binds_58 : decode cX9_binds 58 = .ok (.aload_n 0, 1) := by decide +kernel
theorem dX9_binds_59 : decode cX9_binds 59 = .ok (.getfield 58, 3) := by decide +kernel
theorem dX9_binds_62 : decode cX9_binds 62 = .ok (.iload 4, 2) := by decide +kernel
theorem dX9_binds_64 : decode cX9_binds 64 = .ok (.baload, 1) := by decide +kernel
theorem dX9_binds_65 : decode cX9_binds 65 = .ok (.ifCond .eq 49, 3) := by decide +kernel
theorem dX9_binds_68 : decode cX9_binds 68 = .ok (.aload_n 0, 1) := by decide +kernel
theorem dX9_binds_69 : decode cX9_binds 69 = .ok (.getfield 55, 3) := by decide +kernel
theorem dX9_binds_72 : decode cX9_binds 72 = .ok (.iload 4, 2) := by decide +kernel
theorem dX9_binds_74 : decode cX9_binds 74 = .ok (.iaload, 1) := by decide +kernel
theorem dX9_binds_75 : decode cX9_binds 75 = .ok (.iconst 5, 1) := by decide +kernel
theorem dX9_binds_76 : decode cX9_binds 76 = .ok (.if_icmp .ne 38, 3) := by decide +kernel
theorem dX9_binds_79 : decode cX9_binds 79 = .ok (.aload_n 0, 1) := by decide +kernel
theorem dX9_binds_80 : decode cX9_binds 80 = .ok (.getfield 62, 3) := by decide +kernel
theorem dX9_binds_83 : decode cX9_binds 83 = .ok (.iload 4, 2) := by decide +kernel
theorem dX9_binds_85 : decode cX9_binds 85 = .ok (.iaload, 1) := by decide +kernel
theorem dX9_binds_86 : decode cX9_binds 86 = .ok (.iload_n 2, 1) := by decide +kernel
theorem dX9_binds_87 : decode cX9_binds 87 = .ok (.if_icmp .ne 27, 3) := by decide +kernel
theorem dX9_binds_90 : decode cX9_binds 90 = .ok (.aload_n 0, 1) := by decide +kernel
theorem dX9_binds_91 : decode cX9_binds 91 = .ok (.getfield 68, 3) := by decide +kernel
theorem dX9_binds_94 : decode cX9_binds 94 = .ok (.iload 4, 2) := by decide +kernel
theorem dX9_binds_96 : decode cX9_binds 96 = .ok (.iaload, 1) := by decide +kernel
theorem dX9_binds_97 : decode cX9_binds 97 = .ok (.iload_n 1, 1) := by decide +kernel
theorem dX9_binds_98 : decode cX9_binds 98 = .ok (.if_icmp .ne 16, 3) := by decide +kernel
theorem dX9_binds_101 : decode cX9_binds 101 = .ok (.aload_n 0, 1) := by decide +kernel
theorem dX9_binds_102 : decode cX9_binds 102 = .ok (.getfield 65, 3) := by decide +kernel
theorem dX9_binds_105 : decode cX9_binds 105 = .ok (.iload 4, 2) := by decide +kernel
theorem dX9_binds_107 : decode cX9_binds 107 = .ok (.iaload, 1) := by decide +kernel
theorem dX9_binds_108 : decode cX9_binds 108 = .ok (.iload_n 3, 1) := by decide +kernel
theorem dX9_binds_109 : decode cX9_binds 109 = .ok (.if_icmp .gt 5, 3) := by decide +kernel
theorem dX9_binds_112 : decode cX9_binds 112 = .ok (.iconst 0, 1) := by decide +kernel
theorem dX9_binds_113 : decode cX9_binds 113 = .ok (.ireturn, 1) := by decide +kernel
theorem dX9_binds_114 : decode cX9_binds 114 = .ok (.iinc 4 1, 3) := by decide +kernel
theorem dX9_binds_117 : decode cX9_binds 117 = .ok (.goto (-68), 3) := by decide +kernel
theorem dX9_binds_120 : decode cX9_binds 120 = .ok (.iconst 1, 1) := by decide +kernel
theorem dX9_binds_121 : decode cX9_binds 121 = .ok (.ireturn, 1) := by decide +kernel
theorem dX9_isAsked_0 : decode cX9_isAsked 0 = .ok (.aload_n 0, 1) := by decide +kernel
theorem dX9_isAsked_1 : decode cX9_isAsked 1 = .ok (.getfield 31, 3) := by decide +kernel
theorem dX9_isAsked_4 : decode cX9_isAsked 4 = .ok (.iload_n 2, 1) := by decide +kernel
theorem dX9_isAsked_5 : decode cX9_isAsked 5 = .ok (.iaload, 1) := by decide +kernel
theorem dX9_isAsked_6 : decode cX9_isAsked 6 = .ok (.aload_n 0, 1) := by decide +kernel
theorem dX9_isAsked_7 : decode cX9_isAsked 7 = .ok (.getfield 19, 3) := by decide +kernel
theorem dX9_isAsked_10 : decode cX9_isAsked 10 = .ok (.iload_n 1, 1) := by decide +kernel
theorem dX9_isAsked_11 : decode cX9_isAsked 11 = .ok (.iaload, 1) := by decide +kernel
theorem dX9_isAsked_12 : decode cX9_isAsked 12 = .ok (.if_icmp .eq 5, 3) := by decide +kernel
theorem dX9_isAsked_15 : decode cX9_isAsked 15 = .ok (.iconst 0, 1) := by decide +kernel
theorem dX9_isAsked_16 : decode cX9_isAsked 16 = .ok (.ireturn, 1) := by decide +kernel
theorem dX9_isAsked_17 : decode cX9_isAsked 17 = .ok (.iconst 0, 1) := by decide +kernel
theorem dX9_isAsked_18 : decode cX9_isAsked 18 = .ok (.istore 4, 2) := by decide +kernel
theorem dX9_isAsked_20 : decode cX9_isAsked 20 = .ok (.iconst 0, 1) := by decide +kernel
theorem dX9_isAsked_21 : decode cX9_isAsked 21 = .ok (.istore 5, 2) := by decide +kernel
theorem dX9_isAsked_23 : decode cX9_isAsked 23 = .ok (.iconst 0, 1) := by decide +kernel
theorem dX9_isAsked_24 : decode cX9_isAsked 24 = .ok (.istore 6, 2) := by decide +kernel
theorem dX9_isAsked_26 : decode cX9_isAsked 26 = .ok (.iload 6, 2) := by decide +kernel
theorem dX9_isAsked_28 : decode cX9_isAsked 28 = .ok (.bipush 8, 2) := by decide +kernel
theorem dX9_isAsked_30 : decode cX9_isAsked 30 = .ok (.if_icmp .ge 102, 3) := by decide +kernel
theorem dX9_isAsked_33 : decode cX9_isAsked 33 = .ok (.aload_n 0, 1) := by decide +kernel
theorem dX9_isAsked_34 : decode cX9_isAsked 34 = .ok (.getfield 40, 3) := by decide +kernel
theorem dX9_isAsked_37 : decode cX9_isAsked 37 = .ok (.iload 6, 2) := by decide +kernel
theorem dX9_isAsked_39 : decode cX9_isAsked 39 = .ok (.iaload, 1) := by decide +kernel
theorem dX9_isAsked_40 : decode cX9_isAsked 40 = .ok (.iconst (-1), 1) := by decide +kernel
theorem dX9_isAsked_41 : decode cX9_isAsked 41 = .ok (.if_icmp .ne 6, 3) := by decide +kernel
theorem dX9_isAsked_44 : decode cX9_isAsked 44 = .ok (.goto 82, 3) := by decide +kernel
theorem dX9_isAsked_47 : decode cX9_isAsked 47 = .ok (.aload_n 0, 1) := by decide +kernel
theorem dX9_isAsked_48 : decode cX9_isAsked 48 = .ok (.iload 6, 2) := by decide +kernel
theorem dX9_isAsked_50 : decode cX9_isAsked 50 = .ok (.iload_n 1, 1) := by decide +kernel
theorem dX9_isAsked_51 : decode cX9_isAsked 51 = .ok (.iload_n 3, 1) := by decide +kernel
theorem dX9_isAsked_52 : decode cX9_isAsked 52 = .ok (.invokevirtual 210, 3) := by decide +kernel
theorem dX9_isAsked_55 : decode cX9_isAsked 55 = .ok (.istore 7, 2) := by decide +kernel
theorem dX9_isAsked_57 : decode cX9_isAsked 57 = .ok (.iload 7, 2) := by decide +kernel
theorem dX9_isAsked_59 : decode cX9_isAsked 59 = .ok (.ifCond .eq 16, 3) := by decide +kernel
theorem dX9_isAsked_62 : decode cX9_isAsked 62 = .ok (.aload_n 0, 1) := by decide +kernel
theorem dX9_isAsked_63 : decode cX9_isAsked 63 = .ok (.getfield 52, 3) := by decide +kernel
theorem dX9_isAsked_66 : decode cX9_isAsked 66 = .ok (.iload 6, 2) := by decide +kernel
theorem dX9_isAsked_68 : decode cX9_isAsked 68 = .ok (.iaload, 1) := by decide +kernel
theorem dX9_isAsked_69 : decode cX9_isAsked 69 = .ok (.iload_n 2, 1) := by decide +kernel
theorem dX9_isAsked_70 : decode cX9_isAsked 70 = .ok (.if_icmp .ne 5, 3) := by decide +kernel
theorem dX9_isAsked_73 : decode cX9_isAsked 73 = .ok (.iconst 0, 1) := by decide +kernel
theorem dX9_isAsked_74 : decode cX9_isAsked 74 = .ok (.ireturn, 1) := by decide +kernel
theorem dX9_isAsked_75 : decode cX9_isAsked 75 = .ok (.iload 4, 2) := by decide +kernel
theorem dX9_isAsked_77 : decode cX9_isAsked 77 = .ok (.ifCond .ne 14, 3) := by decide +kernel
theorem dX9_isAsked_80 : decode cX9_isAsked 80 = .ok (.aload_n 0, 1) := by decide +kernel
theorem dX9_isAsked_81 : decode cX9_isAsked 81 = .ok (.getfield 49, 3) := by decide +kernel
theorem dX9_isAsked_84 : decode cX9_isAsked 84 = .ok (.iload 6, 2) := by decide +kernel
theorem dX9_isAsked_86 : decode cX9_isAsked 86 = .ok (.iaload, 1) := by decide +kernel
theorem dX9_isAsked_87 : decode cX9_isAsked 87 = .ok (.iload_n 2, 1) := by decide +kernel
theorem dX9_isAsked_88 : decode cX9_isAsked 88 = .ok (.if_icmp .ne 7, 3) := by decide +kernel
theorem dX9_isAsked_91 : decode cX9_isAsked 91 = .ok (.iconst 1, 1) := by decide +kernel
theorem dX9_isAsked_92 : decode cX9_isAsked 92 = .ok (.goto 4, 3) := by decide +kernel
theorem dX9_isAsked_95 : decode cX9_isAsked 95 = .ok (.iconst 0, 1) := by decide +kernel
theorem dX9_isAsked_96 : decode cX9_isAsked 96 = .ok (.istore 4, 2) := by decide +kernel
theorem dX9_isAsked_98 : decode cX9_isAsked 98 = .ok (.iload 5, 2) := by decide +kernel
theorem dX9_isAsked_100 : decode cX9_isAsked 100 = .ok (.ifCond .ne 19, 3) := by decide +kernel
theorem dX9_isAsked_103 : decode cX9_isAsked 103 = .ok (.iload 7, 2) := by decide +kernel
theorem dX9_isAsked_105 : decode cX9_isAsked 105 = .ok (.ifCond .eq 18, 3) := by decide +kernel
theorem dX9_isAsked_108 : decode cX9_isAsked 108 = .ok (.aload_n 0, 1) := by decide +kernel
theorem dX9_isAsked_109 : decode cX9_isAsked 109 = .ok (.getfield 49, 3) := by decide +kernel
theorem dX9_isAsked_112 : decode cX9_isAsked 112 = .ok (.iload 6, 2) := by decide +kernel
theorem dX9_isAsked_114 : decode cX9_isAsked 114 = .ok (.iaload, 1) := by decide +kernel
theorem dX9_isAsked_115 : decode cX9_isAsked 115 = .ok (.iload_n 2, 1) := by decide +kernel
theorem dX9_isAsked_116 : decode cX9_isAsked 116 = .ok (.if_icmp .ne 7, 3) := by decide +kernel
theorem dX9_isAsked_119 : decode cX9_isAsked 119 = .ok (.iconst 1, 1) := by decide +kernel
theorem dX9_isAsked_120 : decode cX9_isAsked 120 = .ok (.goto 4, 3) := by decide +kernel
theorem dX9_isAsked_123 : decode cX9_isAsked 123 = .ok (.iconst 0, 1) := by decide +kernel
theorem dX9_isAsked_124 : decode cX9_isAsked 124 = .ok (.istore 5, 2) := by decide +kernel
theorem dX9_isAsked_126 : decode cX9_isAsked 126 = .ok (.iinc 6 1, 3) := by decide +kernel
theorem dX9_isAsked_129 : decode cX9_isAsked 129 = .ok (.goto (-103), 3) := by decide +kernel
theorem dX9_isAsked_132 : decode cX9_isAsked 132 = .ok (.iload 4, 2) := by decide +kernel
theorem dX9_isAsked_134 : decode cX9_isAsked 134 = .ok (.ifCond .eq 8, 3) := by decide +kernel
theorem dX9_isAsked_137 : decode cX9_isAsked 137 = .ok (.iload 5, 2) := by decide +kernel
theorem dX9_isAsked_139 : decode cX9_isAsked 139 = .ok (.ifCond .eq 7, 3) := by decide +kernel
theorem dX9_isAsked_142 : decode cX9_isAsked 142 = .ok (.iconst 1, 1) := by decide +kernel
theorem dX9_isAsked_143 : decode cX9_isAsked 143 = .ok (.goto 4, 3) := by decide +kernel
theorem dX9_isAsked_146 : decode cX9_isAsked 146 = .ok (.iconst 0, 1) := by decide +kernel
theorem dX9_isAsked_147 : decode cX9_isAsked 147 = .ok (.ireturn, 1) := by decide +kernel
theorem dX9_asked_0 : decode cX9_asked 0 = .ok (.aload_n 0, 1) := by decide +kernel
theorem dX9_asked_1 : decode cX9_asked 1 = .ok (.iconst 0, 1) := by decide +kernel
theorem dX9_asked_2 : decode cX9_asked 2 = .ok (.putfield 95, 3) := by decide +kernel
theorem dX9_asked_5 : decode cX9_asked 5 = .ok (.aload_n 0, 1) := by decide +kernel
theorem dX9_asked_6 : decode cX9_asked 6 = .ok (.iload_n 1, 1) := by decide +kernel
theorem dX9_asked_7 : decode cX9_asked 7 = .ok (.invokevirtual 104, 3) := by decide +kernel
theorem dX9_asked_10 : decode cX9_asked 10 = .ok (.ifCond .eq 18, 3) := by decide +kernel
theorem dX9_asked_13 : decode cX9_asked 13 = .ok (.aload_n 0, 1) := by decide +kernel
theorem dX9_asked_14 : decode cX9_asked 14 = .ok (.iload_n 2, 1) := by decide +kernel
theorem dX9_asked_15 : decode cX9_asked 15 = .ok (.invokevirtual 120, 3) := by decide +kernel
theorem dX9_asked_18 : decode cX9_asked 18 = .ok (.ifCond .eq 10, 3) := by decide +kernel
theorem dX9_asked_21 : decode cX9_asked 21 = .ok (.iload_n 3, 1) := by decide +kernel
theorem dX9_asked_22 : decode cX9_asked 22 = .ok (.invokestatic 115, 3) := by decide +kernel
theorem dX9_asked_25 : decode cX9_asked 25 = .ok (.ifCond .ne 5, 3) := by decide +kernel
theorem dX9_asked_28 : decode cX9_asked 28 = .ok (.iconst 0, 1) := by decide +kernel
theorem dX9_asked_29 : decode cX9_asked 29 = .ok (.ireturn, 1) := by decide +kernel
theorem dX9_asked_30 : decode cX9_asked 30 = .ok (.bipush 100, 2) := by decide +kernel
theorem dX9_asked_32 : decode cX9_asked 32 = .ok (.iload_n 3, 1) := by decide +kernel
theorem dX9_asked_33 : decode cX9_asked 33 = .ok (.imul, 1) := by decide +kernel
theorem dX9_asked_34 : decode cX9_asked 34 = .ok (.bipush 99, 2) := by decide +kernel
theorem dX9_asked_36 : decode cX9_asked 36 = .ok (.iadd, 1) := by decide +kernel
theorem dX9_asked_37 : decode cX9_asked 37 = .ok (.istore 4, 2) := by decide +kernel
theorem dX9_asked_39 : decode cX9_asked 39 = .ok (.aload_n 0, 1) := by decide +kernel
theorem dX9_asked_40 : decode cX9_asked 40 = .ok (.iload_n 1, 1) := by decide +kernel
theorem dX9_asked_41 : decode cX9_asked 41 = .ok (.iload_n 2, 1) := by decide +kernel
theorem dX9_asked_42 : decode cX9_asked 42 = .ok (.iload 4, 2) := by decide +kernel
theorem dX9_asked_44 : decode cX9_asked 44 = .ok (.invokevirtual 213, 3) := by decide +kernel
theorem dX9_asked_47 : decode cX9_asked 47 = .ok (.ifCond .ne 7, 3) := by decide +kernel
theorem dX9_asked_50 : decode cX9_asked 50 = .ok (.iconst 0, 1) := by decide +kernel
theorem dX9_asked_51 : decode cX9_asked 51 = .ok (.goto 19, 3) := by decide +kernel
theorem dX9_asked_54 : decode cX9_asked 54 = .ok (.aload_n 0, 1) := by decide +kernel
theorem dX9_asked_55 : decode cX9_asked 55 = .ok (.iload_n 1, 1) := by decide +kernel
theorem dX9_asked_56 : decode cX9_asked 56 = .ok (.iload_n 2, 1) := by decide +kernel
theorem dX9_asked_57 : decode cX9_asked 57 = .ok (.iload 4, 2) := by decide +kernel
theorem dX9_asked_59 : decode cX9_asked 59 = .ok (.invokevirtual 216, 3) := by decide +kernel
theorem dX9_asked_62 : decode cX9_asked 62 = .ok (.ifCond .eq 7, 3) := by decide +kernel
theorem dX9_asked_65 : decode cX9_asked 65 = .ok (.iconst 2, 1) := by decide +kernel
theorem dX9_asked_66 : decode cX9_asked 66 = .ok (.goto 4, 3) := by decide +kernel
theorem dX9_asked_69 : decode cX9_asked 69 = .ok (.iconst 1, 1) := by decide +kernel
theorem dX9_asked_70 : decode cX9_asked 70 = .ok (.ireturn, 1) := by decide +kernel
theorem dX9_isOfTree_0 : decode cX9_isOfTree 0 = .ok (.aload_n 0, 1) := by decide +kernel
theorem dX9_isOfTree_1 : decode cX9_isOfTree 1 = .ok (.getfield 19, 3) := by decide +kernel
theorem dX9_isOfTree_4 : decode cX9_isOfTree 4 = .ok (.iload_n 1, 1) := by decide +kernel
theorem dX9_isOfTree_5 : decode cX9_isOfTree 5 = .ok (.iaload, 1) := by decide +kernel
theorem dX9_isOfTree_6 : decode cX9_isOfTree 6 = .ok (.iconst (-1), 1) := by decide +kernel
theorem dX9_isOfTree_7 : decode cX9_isOfTree 7 = .ok (.if_icmp .eq 16, 3) := by decide +kernel
theorem dX9_isOfTree_10 : decode cX9_isOfTree 10 = .ok (.aload_n 0, 1) := by decide +kernel
theorem dX9_isOfTree_11 : decode cX9_isOfTree 11 = .ok (.iload_n 1, 1) := by decide +kernel
theorem dX9_isOfTree_12 : decode cX9_isOfTree 12 = .ok (.iload_n 2, 1) := by decide +kernel
theorem dX9_isOfTree_13 : decode cX9_isOfTree 13 = .ok (.invokevirtual 132, 3) := by decide +kernel
theorem dX9_isOfTree_16 : decode cX9_isOfTree 16 = .ok (.ifCond .eq 7, 3) := by decide +kernel
theorem dX9_isOfTree_19 : decode cX9_isOfTree 19 = .ok (.iconst 1, 1) := by decide +kernel
theorem dX9_isOfTree_20 : decode cX9_isOfTree 20 = .ok (.goto 4, 3) := by decide +kernel
theorem dX9_isOfTree_23 : decode cX9_isOfTree 23 = .ok (.iconst 0, 1) := by decide +kernel
theorem dX9_isOfTree_24 : decode cX9_isOfTree 24 = .ok (.ireturn, 1) := by decide +kernel
theorem dX9_open_0 : decode cX9_open 0 = .ok (.aload_n 0, 1) := by decide +kernel
theorem dX9_open_1 : decode cX9_open 1 = .ok (.iconst 0, 1) := by decide +kernel
theorem dX9_open_2 : decode cX9_open 2 = .ok (.putfield 95, 3) := by decide +kernel
theorem dX9_open_5 : decode cX9_open 5 = .ok (.aload_n 0, 1) := by decide +kernel
theorem dX9_open_6 : decode cX9_open 6 = .ok (.iload_n 1, 1) := by decide +kernel
theorem dX9_open_7 : decode cX9_open 7 = .ok (.invokevirtual 153, 3) := by decide +kernel
theorem dX9_open_10 : decode cX9_open 10 = .ok (.ifCond .eq 10, 3) := by decide +kernel
theorem dX9_open_13 : decode cX9_open 13 = .ok (.iload_n 2, 1) := by decide +kernel
theorem dX9_open_14 : decode cX9_open 14 = .ok (.invokestatic 115, 3) := by decide +kernel
theorem dX9_open_17 : decode cX9_open 17 = .ok (.ifCond .ne 5, 3) := by decide +kernel
theorem dX9_open_20 : decode cX9_open 20 = .ok (.iconst (-1), 1) := by decide +kernel
theorem dX9_open_21 : decode cX9_open 21 = .ok (.ireturn, 1) := by decide +kernel
theorem dX9_open_22 : decode cX9_open 22 = .ok (.bipush 100, 2) := by decide +kernel
theorem dX9_open_24 : decode cX9_open 24 = .ok (.iload_n 2, 1) := by decide +kernel
theorem dX9_open_25 : decode cX9_open 25 = .ok (.imul, 1) := by decide +kernel
theorem dX9_open_26 : decode cX9_open 26 = .ok (.bipush 99, 2) := by decide +kernel
theorem dX9_open_28 : decode cX9_open 28 = .ok (.iadd, 1) := by decide +kernel
theorem dX9_open_29 : decode cX9_open 29 = .ok (.istore 4, 2) := by decide +kernel
theorem dX9_open_31 : decode cX9_open 31 = .ok (.aload_n 0, 1) := by decide +kernel
theorem dX9_open_32 : decode cX9_open 32 = .ok (.iload 4, 2) := by decide +kernel
theorem dX9_open_34 : decode cX9_open 34 = .ok (.invokevirtual 189, 3) := by decide +kernel
theorem dX9_open_37 : decode cX9_open 37 = .ok (.istore 5, 2) := by decide +kernel
theorem dX9_open_39 : decode cX9_open 39 = .ok (.iconst 0, 1) := by decide +kernel
theorem dX9_open_40 : decode cX9_open 40 = .ok (.istore 6, 2) := by decide +kernel
theorem dX9_open_42 : decode cX9_open 42 = .ok (.iconst 0, 1) := by decide +kernel
theorem dX9_open_43 : decode cX9_open 43 = .ok (.istore 7, 2) := by decide +kernel
theorem dX9_open_45 : decode cX9_open 45 = .ok (.iload 7, 2) := by decide +kernel
theorem dX9_open_47 : decode cX9_open 47 = .ok (.bipush 40, 2) := by decide +kernel
theorem dX9_open_49 : decode cX9_open 49 = .ok (.if_icmp .ge 93, 3) := by decide +kernel
theorem dX9_open_52 : decode cX9_open 52 = .ok (.iconst 0, 1) := by decide +kernel
theorem dX9_open_53 : decode cX9_open 53 = .ok (.istore 8, 2) := by decide +kernel
theorem dX9_open_55 : decode cX9_open 55 = .ok (.iload 8, 2) := by decide +kernel
theorem dX9_open_57 : decode cX9_open 57 = .ok (.bipush 16, 2) := by decide +kernel
theorem dX9_open_59 : decode cX9_open 59 = .ok (.if_icmp .ge 77, 3) := by decide +kernel
theorem dX9_open_62 : decode cX9_open 62 = .ok (.aload_n 0, 1) := by decide +kernel
theorem dX9_open_63 : decode cX9_open 63 = .ok (.iload 7, 2) := by decide +kernel
theorem dX9_open_65 : decode cX9_open 65 = .ok (.iload_n 1, 1) := by decide +kernel
theorem dX9_open_66 : decode cX9_open 66 = .ok (.invokevirtual 219, 3) := by decide +kernel
theorem dX9_open_69 : decode cX9_open 69 = .ok (.ifCond .eq 61, 3) := by decide +kernel
theorem dX9_open_72 : decode cX9_open 72 = .ok (.aload_n 0, 1) := by decide +kernel
theorem dX9_open_73 : decode cX9_open 73 = .ok (.getfield 31, 3) := by decide +kernel
theorem dX9_open_76 : decode cX9_open 76 = .ok (.iload 8, 2) := by decide +kernel
theorem dX9_open_78 : decode cX9_open 78 = .ok (.iaload, 1) := by decide +kernel
theorem dX9_open_79 : decode cX9_open 79 = .ok (.iconst (-1), 1) := by decide +kernel
theorem dX9_open_80 : decode cX9_open 80 = .ok (.if_icmp .eq 50, 3) := by decide +kernel
theorem dX9_open_83 : decode cX9_open 83 = .ok (.aload_n 0, 1) := by decide +kernel
theorem dX9_open_84 : decode cX9_open 84 = .ok (.iload 7, 2) := by decide +kernel
theorem dX9_open_86 : decode cX9_open 86 = .ok (.iload 8, 2) := by decide +kernel
theorem dX9_open_88 : decode cX9_open 88 = .ok (.iload 4, 2) := by decide +kernel
theorem dX9_open_90 : decode cX9_open 90 = .ok (.invokevirtual 213, 3) := by decide +kernel
theorem dX9_open_93 : decode cX9_open 93 = .ok (.ifCond .eq 37, 3) := by decide +kernel
theorem dX9_open_96 : decode cX9_open 96 = .ok (.aload_n 0, 1) := by decide +kernel
theorem dX9_open_97 : decode cX9_open 97 = .ok (.iload 7, 2) := by decide +kernel
theorem dX9_open_99 : decode cX9_open 99 = .ok (.iload 8, 2) := by decide +kernel
theorem dX9_open_101 : decode cX9_open 101 = .ok (.iload 4, 2) := by decide +kernel
theorem dX9_open_103 : decode cX9_open 103 = .ok (.invokevirtual 216, 3) := by decide +kernel
theorem dX9_open_106 : decode cX9_open 106 = .ok (.ifCond .ne 6, 3) := by decide +kernel
theorem dX9_open_109 : decode cX9_open 109 = .ok (.goto 21, 3) := by decide +kernel
theorem dX9_open_112 : decode cX9_open 112 = .ok (.iload 6, 2) := by decide +kernel
theorem dX9_open_114 : decode cX9_open 114 = .ok (.iload_n 3, 1) := by decide +kernel
theorem dX9_open_115 : decode cX9_open 115 = .ok (.if_icmp .ne 12, 3) := by decide +kernel
theorem dX9_open_118 : decode cX9_open 118 = .ok (.bipush 16, 2) := by decide +kernel
theorem dX9_open_120 : decode cX9_open 120 = .ok (.iload 7, 2) := by decide +kernel
theorem dX9_open_122 : decode cX9_open 122 = .ok (.imul, 1) := by decide +kernel
theorem dX9_open_123 : decode cX9_open 123 = .ok (.iload 8, 2) := by decide +kernel
theorem dX9_open_125 : decode cX9_open 125 = .ok (.iadd, 1) := by decide +kernel
theorem dX9_open_126 : decode cX9_open 126 = .ok (.ireturn, 1) := by decide +kernel
theorem dX9_open_127 : decode cX9_open 127 = .ok (.iinc 6 1, 3) := by decide +kernel
theorem dX9_open_130 : decode cX9_open 130 = .ok (.iinc 8 1, 3) := by decide +kernel
theorem dX9_open_133 : decode cX9_open 133 = .ok (.goto (-78), 3) := by decide +kernel
theorem dX9_open_136 : decode cX9_open 136 = .ok (.iinc 7 1, 3) := by decide +kernel
theorem dX9_open_139 : decode cX9_open 139 = .ok (.goto (-94), 3) := by decide +kernel
theorem dX9_open_142 : decode cX9_open 142 = .ok (.iconst (-1), 1) := by decide +kernel
theorem dX9_open_143 : decode cX9_open 143 = .ok (.ireturn, 1) := by decide +kernel
theorem dX9_isWorn_0 : decode cX9_isWorn 0 = .ok (.aload_n 0, 1) := by decide +kernel
theorem dX9_isWorn_1 : decode cX9_isWorn 1 = .ok (.getfield 19, 3) := by decide +kernel
theorem dX9_isWorn_4 : decode cX9_isWorn 4 = .ok (.iload_n 1, 1) := by decide +kernel
theorem dX9_isWorn_5 : decode cX9_isWorn 5 = .ok (.iaload, 1) := by decide +kernel
theorem dX9_isWorn_6 : decode cX9_isWorn 6 = .ok (.istore_n 3, 1) := by decide +kernel
theorem dX9_isWorn_7 : decode cX9_isWorn 7 = .ok (.aload_n 0, 1) := by decide +kernel
theorem dX9_isWorn_8 : decode cX9_isWorn 8 = .ok (.getfield 13, 3) := by decide +kernel
theorem dX9_isWorn_11 : decode cX9_isWorn 11 = .ok (.iload_n 3, 1) := by decide +kernel
theorem dX9_isWorn_12 : decode cX9_isWorn 12 = .ok (.iaload, 1) := by decide +kernel
theorem dX9_isWorn_13 : decode cX9_isWorn 13 = .ok (.ifCond .le 19, 3) := by decide +kernel
theorem dX9_isWorn_16 : decode cX9_isWorn 16 = .ok (.aload_n 0, 1) := by decide +kernel
theorem dX9_isWorn_17 : decode cX9_isWorn 17 = .ok (.iload_n 1, 1) := by decide +kernel
theorem dX9_isWorn_18 : decode cX9_isWorn 18 = .ok (.iconst 0, 1) := by decide +kernel
theorem dX9_isWorn_19 : decode cX9_isWorn 19 = .ok (.iload_n 2, 1) := by decide +kernel
theorem dX9_isWorn_20 : decode cX9_isWorn 20 = .ok (.invokevirtual 192, 3) := by decide +kernel
theorem dX9_isWorn_23 : decode cX9_isWorn 23 = .ok (.aload_n 0, 1) := by decide +kernel
theorem dX9_isWorn_24 : decode cX9_isWorn 24 = .ok (.getfield 13, 3) := by decide +kernel
theorem dX9_isWorn_27 : decode cX9_isWorn 27 = .ok (.iload_n 3, 1) := by decide +kernel
theorem dX9_isWorn_28 : decode cX9_isWorn 28 = .ok (.iaload, 1) := by decide +kernel
theorem dX9_isWorn_29 : decode cX9_isWorn 29 = .ok (.if_icmp .gt 28, 3) := by decide +kernel
theorem dX9_isWorn_32 : decode cX9_isWorn 32 = .ok (.aload_n 0, 1) := by decide +kernel
theorem dX9_isWorn_33 : decode cX9_isWorn 33 = .ok (.getfield 16, 3) := by decide +kernel
theorem dX9_isWorn_36 : decode cX9_isWorn 36 = .ok (.iload_n 3, 1) := by decide +kernel
theorem dX9_isWorn_37 : decode cX9_isWorn 37 = .ok (.iaload, 1) := by decide +kernel
theorem dX9_isWorn_38 : decode cX9_isWorn 38 = .ok (.ifCond .le 23, 3) := by decide +kernel
theorem dX9_isWorn_41 : decode cX9_isWorn 41 = .ok (.aload_n 0, 1) := by decide +kernel
theorem dX9_isWorn_42 : decode cX9_isWorn 42 = .ok (.iload_n 1, 1) := by decide +kernel
theorem dX9_isWorn_43 : decode cX9_isWorn 43 = .ok (.iconst 1, 1) := by decide +kernel
theorem dX9_isWorn_44 : decode cX9_isWorn 44 = .ok (.iload_n 2, 1) := by decide +kernel
theorem dX9_isWorn_45 : decode cX9_isWorn 45 = .ok (.invokevirtual 192, 3) := by decide +kernel
theorem dX9_isWorn_48 : decode cX9_isWorn 48 = .ok (.aload_n 0, 1) := by decide +kernel
theorem dX9_isWorn_49 : decode cX9_isWorn 49 = .ok (.getfield 16, 3) := by decide +kernel
theorem dX9_isWorn_52 : decode cX9_isWorn 52 = .ok (.iload_n 3, 1) := by decide +kernel
theorem dX9_isWorn_53 : decode cX9_isWorn 53 = .ok (.iaload, 1) := by decide +kernel
theorem dX9_isWorn_54 : decode cX9_isWorn 54 = .ok (.if_icmp .le 7, 3) := by decide +kernel
theorem dX9_isWorn_57 : decode cX9_isWorn 57 = .ok (.iconst 1, 1) := by decide +kernel
theorem dX9_isWorn_58 : decode cX9_isWorn 58 = .ok (.goto 4, 3) := by decide +kernel
theorem dX9_isWorn_61 : decode cX9_isWorn 61 = .ok (.iconst 0, 1) := by decide +kernel
theorem dX9_isWorn_62 : decode cX9_isWorn 62 = .ok (.ireturn, 1) := by decide +kernel
theorem dX9_isIncomplete_0 : decode cX9_isIncomplete 0 = .ok (.iconst 0, 1) := by decide +kernel
theorem dX9_isIncomplete_1 : decode cX9_isIncomplete 1 = .ok (.istore_n 2, 1) := by decide +kernel
theorem dX9_isIncomplete_2 : decode cX9_isIncomplete 2 = .ok (.iload_n 2, 1) := by decide +kernel
theorem dX9_isIncomplete_3 : decode cX9_isIncomplete 3 = .ok (.iconst 4, 1) := by decide +kernel
theorem dX9_isIncomplete_4 : decode cX9_isIncomplete 4 = .ok (.if_icmp .ge 40, 3) := by decide +kernel
theorem dX9_isIncomplete_7 : decode cX9_isIncomplete 7 = .ok (.aload_n 0, 1) := by decide +kernel
theorem dX9_isIncomplete_8 : decode cX9_isIncomplete 8 = .ok (.getfield 7, 3) := by decide +kernel
theorem dX9_isIncomplete_11 : decode cX9_isIncomplete 11 = .ok (.iconst 4, 1) := by decide +kernel
theorem dX9_isIncomplete_12 : decode cX9_isIncomplete 12 = .ok (.aload_n 0, 1) := by decide +kernel
theorem dX9_isIncomplete_13 : decode cX9_isIncomplete 13 = .ok (.getfield 19, 3) := by decide +kernel
theorem dX9_isIncomplete_16 : decode cX9_isIncomplete 16 = .ok (.iload_n 1, 1) := by decide +kernel
theorem dX9_isIncomplete_17 : decode cX9_isIncomplete 17 = .ok (.iaload, 1) := by decide +kernel
theorem dX9_isIncomplete_18 : decode cX9_isIncomplete 18 = .ok (.imul, 1) := by decide +kernel
theorem dX9_isIncomplete_19 : decode cX9_isIncomplete 19 = .ok (.iload_n 2, 1) := by decide +kernel
theorem dX9_isIncomplete_20 : decode cX9_isIncomplete 20 = .ok (.iadd, 1) := by decide +kernel
theorem dX9_isIncomplete_21 : decode cX9_isIncomplete 21 = .ok (.iaload, 1) := by decide +kernel
theorem dX9_isIncomplete_22 : decode cX9_isIncomplete 22 = .ok (.iconst (-1), 1) := by decide +kernel
theorem dX9_isIncomplete_23 : decode cX9_isIncomplete 23 = .ok (.if_icmp .eq 15, 3) := by decide +kernel
theorem dX9_isIncomplete_26 : decode cX9_isIncomplete 26 = .ok (.aload_n 0, 1) := by decide +kernel
theorem dX9_isIncomplete_27 : decode cX9_isIncomplete 27 = .ok (.iload_n 1, 1) := by decide +kernel
theorem dX9_isIncomplete_28 : decode cX9_isIncomplete 28 = .ok (.iload_n 2, 1) := by decide +kernel
theorem dX9_isIncomplete_29 : decode cX9_isIncomplete 29 = .ok (.invokevirtual 140, 3) := by decide +kernel
theorem dX9_isIncomplete_32 : decode cX9_isIncomplete 32 = .ok (.iconst (-1), 1) := by decide +kernel
theorem dX9_isIncomplete_33 : decode cX9_isIncomplete 33 = .ok (.if_icmp .ne 5, 3) := by decide +kernel
theorem dX9_isIncomplete_36 : decode cX9_isIncomplete 36 = .ok (.iconst 1, 1) := by decide +kernel
theorem dX9_isIncomplete_37 : decode cX9_isIncomplete 37 = .ok (.ireturn, 1) := by decide +kernel
theorem dX9_isIncomplete_38 : decode cX9_isIncomplete 38 = .ok (.iinc 2 1, 3) := by decide +kernel
theorem dX9_isIncomplete_41 : decode cX9_isIncomplete 41 = .ok (.goto (-39), 3) := by decide +kernel
theorem dX9_isIncomplete_44 : decode cX9_isIncomplete 44 = .ok (.iconst 0, 1) := by decide +kernel
theorem dX9_isIncomplete_45 : decode cX9_isIncomplete 45 = .ok (.ireturn, 1) := by decide +kernel
theorem dX9_isHeld_0 : decode cX9_isHeld 0 = .ok (.iconst 0, 1) := by decide +kernel
theorem dX9_isHeld_1 : decode cX9_isHeld 1 = .ok (.istore_n 3, 1) := by decide +kernel
theorem dX9_isHeld_2 : decode cX9_isHeld 2 = .ok (.iload_n 3, 1) := by decide +kernel
theorem dX9_isHeld_3 : decode cX9_isHeld 3 = .ok (.bipush 8, 2) := by decide +kernel
theorem dX9_isHeld_5 : decode cX9_isHeld 5 = .ok (.if_icmp .ge 61, 3) := by decide +kernel
theorem dX9_isHeld_8 : decode cX9_isHeld 8 = .ok (.aload_n 0, 1) := by decide +kernel
theorem dX9_isHeld_9 : decode cX9_isHeld 9 = .ok (.getfield 40, 3) := by decide +kernel
theorem dX9_isHeld_12 : decode cX9_isHeld 12 = .ok (.iload_n 3, 1) := by decide +kernel
theorem dX9_isHeld_13 : decode cX9_isHeld 13 = .ok (.iaload, 1) := by decide +kernel
theorem dX9_isHeld_14 : decode cX9_isHeld 14 = .ok (.iconst (-1), 1) := by decide +kernel
theorem dX9_isHeld_15 : decode cX9_isHeld 15 = .ok (.if_icmp .eq 45, 3) := by decide +kernel
theorem dX9_isHeld_18 : decode cX9_isHeld 18 = .ok (.aload_n 0, 1) := by decide +kernel
theorem dX9_isHeld_19 : decode cX9_isHeld 19 = .ok (.iload_n 3, 1) := by decide +kernel
theorem dX9_isHeld_20 : decode cX9_isHeld 20 = .ok (.iload_n 1, 1) := by decide +kernel
theorem dX9_isHeld_21 : decode cX9_isHeld 21 = .ok (.iload_n 2, 1) := by decide +kernel
theorem dX9_isHeld_22 : decode cX9_isHeld 22 = .ok (.invokevirtual 210, 3) := by decide +kernel
theorem dX9_isHeld_25 : decode cX9_isHeld 25 = .ok (.ifCond .eq 35, 3) := by decide +kernel
theorem dX9_isHeld_28 : decode cX9_isHeld 28 = .ok (.aload_n 0, 1) := by decide +kernel
theorem dX9_isHeld_29 : decode cX9_isHeld 29 = .ok (.iload_n 1, 1) := by decide +kernel
theorem dX9_isHeld_30 : decode cX9_isHeld 30 = .ok (.aload_n 0, 1) := by decide +kernel
theorem dX9_isHeld_31 : decode cX9_isHeld 31 = .ok (.getfield 49, 3) := by decide +kernel
theorem dX9_isHeld_34 : decode cX9_isHeld 34 = .ok (.iload_n 3, 1) := by decide +kernel
theorem dX9_isHeld_35 : decode cX9_isHeld 35 = .ok (.iaload, 1) := by decide +kernel
theorem dX9_isHeld_36 : decode cX9_isHeld 36 = .ok (.iload_n 2, 1) := by decide +kernel
theorem dX9_isHeld_37 : decode cX9_isHeld 37 = .ok (.invokevirtual 213, 3) := by decide +kernel
theorem dX9_isHeld_40 : decode cX9_isHeld 40 = .ok (.ifCond .eq 20, 3) := by decide +kernel
theorem dX9_isHeld_43 : decode cX9_isHeld 43 = .ok (.aload_n 0, 1) := by decide +kernel
theorem dX9_isHeld_44 : decode cX9_isHeld 44 = .ok (.iload_n 1, 1) := by decide +kernel
theorem dX9_isHeld_45 : decode cX9_isHeld 45 = .ok (.aload_n 0, 1) := by decide +kernel
theorem dX9_isHeld_46 : decode cX9_isHeld 46 = .ok (.getfield 49, 3) := by decide +kernel
theorem dX9_isHeld_49 : decode cX9_isHeld 49 = .ok (.iload_n 3, 1) := by decide +kernel
theorem dX9_isHeld_50 : decode cX9_isHeld 50 = .ok (.iaload, 1) := by decide +kernel
theorem dX9_isHeld_51 : decode cX9_isHeld 51 = .ok (.iload_n 2, 1) := by decide +kernel
theorem dX9_isHeld_52 : decode cX9_isHeld 52 = .ok (.invokevirtual 216, 3) := by decide +kernel
theorem dX9_isHeld_55 : decode cX9_isHeld 55 = .ok (.ifCond .eq 5, 3) := by decide +kernel
theorem dX9_isHeld_58 : decode cX9_isHeld 58 = .ok (.iconst 1, 1) := by decide +kernel
theorem dX9_isHeld_59 : decode cX9_isHeld 59 = .ok (.ireturn, 1) := by decide +kernel
theorem dX9_isHeld_60 : decode cX9_isHeld 60 = .ok (.iinc 3 1, 3) := by decide +kernel
theorem dX9_isHeld_63 : decode cX9_isHeld 63 = .ok (.goto (-61), 3) := by decide +kernel
theorem dX9_isHeld_66 : decode cX9_isHeld 66 = .ok (.iconst 0, 1) := by decide +kernel
theorem dX9_isHeld_67 : decode cX9_isHeld 67 = .ok (.ireturn, 1) := by decide +kernel
theorem dX9_grounded_0 : decode cX9_grounded 0 = .ok (.aload_n 0, 1) := by decide +kernel
theorem dX9_grounded_1 : decode cX9_grounded 1 = .ok (.iconst 0, 1) := by decide +kernel
theorem dX9_grounded_2 : decode cX9_grounded 2 = .ok (.putfield 95, 3) := by decide +kernel
theorem dX9_grounded_5 : decode cX9_grounded 5 = .ok (.aload_n 0, 1) := by decide +kernel
theorem dX9_grounded_6 : decode cX9_grounded 6 = .ok (.iload_n 1, 1) := by decide +kernel
theorem dX9_grounded_7 : decode cX9_grounded 7 = .ok (.invokevirtual 153, 3) := by decide +kernel
theorem dX9_grounded_10 : decode cX9_grounded 10 = .ok (.ifCond .eq 10, 3) := by decide +kernel
theorem dX9_grounded_13 : decode cX9_grounded 13 = .ok (.iload_n 2, 1) := by decide +kernel
theorem dX9_grounded_14 : decode cX9_grounded 14 = .ok (.invokestatic 115, 3) := by decide +kernel
theorem dX9_grounded_17 : decode cX9_grounded 17 = .ok (.ifCond .ne 5, 3) := by decide +kernel
theorem dX9_grounded_20 : decode cX9_grounded 20 = .ok (.iconst (-1), 1) := by decide +kernel
theorem dX9_grounded_21 : decode cX9_grounded 21 = .ok (.ireturn, 1) := by decide +kernel
theorem dX9_grounded_22 : decode cX9_grounded 22 = .ok (.bipush 100, 2) := by decide +kernel
theorem dX9_grounded_24 : decode cX9_grounded 24 = .ok (.iload_n 2, 1) := by decide +kernel
theorem dX9_grounded_25 : decode cX9_grounded 25 = .ok (.imul, 1) := by decide +kernel
theorem dX9_grounded_26 : decode cX9_grounded 26 = .ok (.bipush 99, 2) := by decide +kernel
theorem dX9_grounded_28 : decode cX9_grounded 28 = .ok (.iadd, 1) := by decide +kernel
theorem dX9_grounded_29 : decode cX9_grounded 29 = .ok (.istore_n 3, 1) := by decide +kernel
theorem dX9_grounded_30 : decode cX9_grounded 30 = .ok (.aload_n 0, 1) := by decide +kernel
theorem dX9_grounded_31 : decode cX9_grounded 31 = .ok (.iload_n 3, 1) := by decide +kernel
theorem dX9_grounded_32 : decode cX9_grounded 32 = .ok (.invokevirtual 189, 3) := by decide +kernel
theorem dX9_grounded_35 : decode cX9_grounded 35 = .ok (.istore 4, 2) := by decide +kernel
theorem dX9_grounded_37 : decode cX9_grounded 37 = .ok (.iconst 0, 1) := by decide +kernel
theorem dX9_grounded_38 : decode cX9_grounded 38 = .ok (.istore 5, 2) := by decide +kernel
theorem dX9_grounded_40 : decode cX9_grounded 40 = .ok (.iload 5, 2) := by decide +kernel
theorem dX9_grounded_42 : decode cX9_grounded 42 = .ok (.bipush 40, 2) := by decide +kernel
theorem dX9_grounded_44 : decode cX9_grounded 44 = .ok (.if_icmp .ge 50, 3) := by decide +kernel
theorem dX9_grounded_47 : decode cX9_grounded 47 = .ok (.aload_n 0, 1) := by decide +kernel
theorem dX9_grounded_48 : decode cX9_grounded 48 = .ok (.iload 5, 2) := by decide +kernel
theorem dX9_grounded_50 : decode cX9_grounded 50 = .ok (.iload_n 1, 1) := by decide +kernel
theorem dX9_grounded_51 : decode cX9_grounded 51 = .ok (.invokevirtual 219, 3) := by decide +kernel
theorem dX9_grounded_54 : decode cX9_grounded 54 = .ok (.ifCond .eq 34, 3) := by decide +kernel
theorem dX9_grounded_57 : decode cX9_grounded 57 = .ok (.aload_n 0, 1) := by decide +kernel
theorem dX9_grounded_58 : decode cX9_grounded 58 = .ok (.iload 5, 2) := by decide +kernel
theorem dX9_grounded_60 : decode cX9_grounded 60 = .ok (.iload_n 3, 1) := by decide +kernel
theorem dX9_grounded_61 : decode cX9_grounded 61 = .ok (.invokevirtual 222, 3) := by decide +kernel
theorem dX9_grounded_64 : decode cX9_grounded 64 = .ok (.ifCond .ne 22, 3) := by decide +kernel
theorem dX9_grounded_67 : decode cX9_grounded 67 = .ok (.aload_n 0, 1) := by decide +kernel
theorem dX9_grounded_68 : decode cX9_grounded 68 = .ok (.iload 5, 2) := by decide +kernel
theorem dX9_grounded_70 : decode cX9_grounded 70 = .ok (.invokevirtual 225, 3) := by decide +kernel
theorem dX9_grounded_73 : decode cX9_grounded 73 = .ok (.ifCond .ne 13, 3) := by decide +kernel
theorem dX9_grounded_76 : decode cX9_grounded 76 = .ok (.aload_n 0, 1) := by decide +kernel
theorem dX9_grounded_77 : decode cX9_grounded 77 = .ok (.iload 5, 2) := by decide +kernel
theorem dX9_grounded_79 : decode cX9_grounded 79 = .ok (.iload_n 3, 1) := by decide +kernel
theorem dX9_grounded_80 : decode cX9_grounded 80 = .ok (.invokevirtual 228, 3) := by decide +kernel
theorem dX9_grounded_83 : decode cX9_grounded 83 = .ok (.ifCond .eq 5, 3) := by decide +kernel
theorem dX9_grounded_86 : decode cX9_grounded 86 = .ok (.iconst 1, 1) := by decide +kernel
theorem dX9_grounded_87 : decode cX9_grounded 87 = .ok (.ireturn, 1) := by decide +kernel
theorem dX9_grounded_88 : decode cX9_grounded 88 = .ok (.iinc 5 1, 3) := by decide +kernel
theorem dX9_grounded_91 : decode cX9_grounded 91 = .ok (.goto (-51), 3) := by decide +kernel
theorem dX9_grounded_94 : decode cX9_grounded 94 = .ok (.iconst 0, 1) := by decide +kernel
theorem dX9_grounded_95 : decode cX9_grounded 95 = .ok (.ireturn, 1) := by decide +kernel
theorem dX9_overdueOn_0 : decode cX9_overdueOn 0 = .ok (.bipush 100, 2) := by decide +kernel
theorem dX9_overdueOn_2 : decode cX9_overdueOn 2 = .ok (.iload_n 3, 1) := by decide +kernel
theorem dX9_overdueOn_3 : decode cX9_overdueOn 3 = .ok (.imul, 1) := by decide +kernel
theorem dX9_overdueOn_4 : decode cX9_overdueOn 4 = .ok (.bipush 99, 2) := by decide +kernel
theorem dX9_overdueOn_6 : decode cX9_overdueOn 6 = .ok (.iadd, 1) := by decide +kernel
theorem dX9_overdueOn_7 : decode cX9_overdueOn 7 = .ok (.istore 6, 2) := by decide +kernel
theorem dX9_overdueOn_9 : decode cX9_overdueOn 9 = .ok (.ldc 231, 2) := by decide +kernel
theorem dX9_overdueOn_11 : decode cX9_overdueOn 11 = .ok (.istore 7, 2) := by decide +kernel
theorem dX9_overdueOn_13 : decode cX9_overdueOn 13 = .ok (.iconst 0, 1) := by decide +kernel
theorem dX9_overdueOn_14 : decode cX9_overdueOn 14 = .ok (.istore 8, 2) := by decide +kernel
theorem dX9_overdueOn_16 : decode cX9_overdueOn 16 = .ok (.iload 8, 2) := by decide +kernel
theorem dX9_overdueOn_18 : decode cX9_overdueOn 18 = .ok (.iconst 3, 1) := by decide +kernel
theorem dX9_overdueOn_19 : decode cX9_overdueOn 19 = .ok (.if_icmp .ge 118, 3) := by decide +kernel
theorem dX9_overdueOn_22 : decode cX9_overdueOn 22 = .ok (.aload_n 0, 1) := by decide +kernel
theorem dX9_overdueOn_23 : decode cX9_overdueOn 23 = .ok (.getfield 34, 3) := by decide +kernel
theorem dX9_overdueOn_26 : decode cX9_overdueOn 26 = .ok (.iconst 3, 1) := by decide +kernel
theorem dX9_overdueOn_27 : decode cX9_overdueOn 27 = .ok (.iload_n 2, 1) := by decide +kernel
theorem dX9_overdueOn_28 : decode cX9_overdueOn 28 = .ok (.imul, 1) := by decide +kernel
theorem dX9_overdueOn_29 : decode cX9_overdueOn 29 = .ok (.iload 8, 2) := by decide +kernel
theorem dX9_overdueOn_31 : decode cX9_overdueOn 31 = .ok (.iadd, 1) := by decide +kernel
theorem dX9_overdueOn_32 : decode cX9_overdueOn 32 = .ok (.iaload, 1) := by decide +kernel
theorem dX9_overdueOn_33 : decode cX9_overdueOn 33 = .ok (.ifCond .ne 6, 3) := by decide +kernel
theorem dX9_overdueOn_36 : decode cX9_overdueOn 36 = .ok (.goto 95, 3) := by decide +kernel
theorem dX9_overdueOn_39 : decode cX9_overdueOn 39 = .ok (.aload_n 0, 1) := by decide +kernel
theorem dX9_overdueOn_40 : decode cX9_overdueOn 40 = .ok (.iload_n 1, 1) := by decide +kernel
theorem dX9_overdueOn_41 : decode cX9_overdueOn 41 = .ok (.iload_n 2, 1) := by decide +kernel
theorem dX9_overdueOn_42 : decode cX9_overdueOn 42 = .ok (.iload 8, 2) := by decide +kernel
theorem dX9_overdueOn_44 : decode cX9_overdueOn 44 = .ok (.iload 6, 2) := by decide +kernel
theorem dX9_overdueOn_46 : decode cX9_overdueOn 46 = .ok (.invokevirtual 206, 3) := by decide +kernel
theorem dX9_overdueOn_49 : decode cX9_overdueOn 49 = .ok (.aload_n 0, 1) := by decide +kernel
theorem dX9_overdueOn_50 : decode cX9_overdueOn 50 = .ok (.iload_n 1, 1) := by decide +kernel
theorem dX9_overdueOn_51 : decode cX9_overdueOn 51 = .ok (.iload 8, 2) := by decide +kernel
theorem dX9_overdueOn_53 : decode cX9_overdueOn 53 = .ok (.iload 6, 2) := by decide +kernel
theorem dX9_overdueOn_55 : decode cX9_overdueOn 55 = .ok (.invokevirtual 192, 3) := by decide +kernel
theorem dX9_overdueOn_58 : decode cX9_overdueOn 58 = .ok (.isub, 1) := by decide +kernel
theorem dX9_overdueOn_59 : decode cX9_overdueOn 59 = .ok (.istore 9, 2) := by decide +kernel
theorem dX9_overdueOn_61 : decode cX9_overdueOn 61 = .ok (.iload 8, 2) := by decide +kernel
theorem dX9_overdueOn_63 : decode cX9_overdueOn 63 = .ok (.ifCond .ne 8, 3) := by decide +kernel
theorem dX9_overdueOn_66 : decode cX9_overdueOn 66 = .ok (.iload 4, 2) := by decide +kernel
theorem dX9_overdueOn_68 : decode cX9_overdueOn 68 = .ok (.goto 15, 3) := by decide +kernel
theorem dX9_overdueOn_71 : decode cX9_overdueOn 71 = .ok (.iload 8, 2) := by decide +kernel
theorem dX9_overdueOn_73 : decode cX9_overdueOn 73 = .ok (.iconst 1, 1) := by decide +kernel
theorem dX9_overdueOn_74 : decode cX9_overdueOn 74 = .ok (.if_icmp .ne 8, 3) := by decide +kernel
theorem dX9_overdueOn_77 : decode cX9_overdueOn 77 = .ok (.iload 5, 2) := by decide +kernel
theorem dX9_overdueOn_79 : decode cX9_overdueOn 79 = .ok (.goto 4, 3) := by decide +kernel
theorem dX9_overdueOn_82 : decode cX9_overdueOn 82 = .ok (.iconst 1, 1) := by decide +kernel
theorem dX9_overdueOn_83 : decode cX9_overdueOn 83 = .ok (.istore 10, 2) := by decide +kernel
theorem dX9_overdueOn_85 : decode cX9_overdueOn 85 = .ok (.iload 9, 2) := by decide +kernel
theorem dX9_overdueOn_87 : decode cX9_overdueOn 87 = .ok (.ifCond .ge 7, 3) := by decide +kernel
theorem dX9_overdueOn_90 : decode cX9_overdueOn 90 = .ok (.iload_n 3, 1) := by decide +kernel
theorem dX9_overdueOn_91 : decode cX9_overdueOn 91 = .ok (.goto 22, 3) := by decide +kernel
theorem dX9_overdueOn_94 : decode cX9_overdueOn 94 = .ok (.iload 10, 2) := by decide +kernel
theorem dX9_overdueOn_96 : decode cX9_overdueOn 96 = .ok (.ifCond .ne 8, 3) := by decide +kernel
theorem dX9_overdueOn_99 : decode cX9_overdueOn 99 = .ok (.ldc 231, 2) := by decide +kernel
theorem dX9_overdueOn_101 : decode cX9_overdueOn 101 = .ok (.goto 12, 3) := by decide +kernel
theorem dX9_overdueOn_104 : decode cX9_overdueOn 104 = .ok (.iload_n 3, 1) := by decide +kernel
theorem dX9_overdueOn_105 : decode cX9_overdueOn 105 = .ok (.iload 9, 2) := by decide +kernel
theorem dX9_overdueOn_107 : decode cX9_overdueOn 107 = .ok (.iload 10, 2) := by decide +kernel
theorem dX9_overdueOn_109 : decode cX9_overdueOn 109 = .ok (.idiv, 1) := by decide +kernel
theorem dX9_overdueOn_110 : decode cX9_overdueOn 110 = .ok (.iadd, 1) := by decide +kernel
theorem dX9_overdueOn_111 : decode cX9_overdueOn 111 = .ok (.iconst 1, 1) := by decide +kernel
theorem dX9_overdueOn_112 : decode cX9_overdueOn 112 = .ok (.iadd, 1) := by decide +kernel
theorem dX9_overdueOn_113 : decode cX9_overdueOn 113 = .ok (.istore 11, 2) := by decide +kernel
theorem dX9_overdueOn_115 : decode cX9_overdueOn 115 = .ok (.iload 11, 2) := by decide +kernel
theorem dX9_overdueOn_117 : decode cX9_overdueOn 117 = .ok (.iload 7, 2) := by decide +kernel
theorem dX9_overdueOn_119 : decode cX9_overdueOn 119 = .ok (.if_icmp .ge 8, 3) := by decide +kernel
theorem dX9_overdueOn_122 : decode cX9_overdueOn 122 = .ok (.iload 11, 2) := by decide +kernel
theorem dX9_overdueOn_124 : decode cX9_overdueOn 124 = .ok (.goto 5, 3) := by decide +kernel
theorem dX9_overdueOn_127 : decode cX9_overdueOn 127 = .ok (.iload 7, 2) := by decide +kernel
theorem dX9_overdueOn_129 : decode cX9_overdueOn 129 = .ok (.istore 7, 2) := by decide +kernel
theorem dX9_overdueOn_131 : decode cX9_overdueOn 131 = .ok (.iinc 8 1, 3) := by decide +kernel
theorem dX9_overdueOn_134 : decode cX9_overdueOn 134 = .ok (.goto (-118), 3) := by decide +kernel
theorem dX9_overdueOn_137 : decode cX9_overdueOn 137 = .ok (.iload 7, 2) := by decide +kernel
theorem dX9_overdueOn_139 : decode cX9_overdueOn 139 = .ok (.ireturn, 1) := by decide +kernel
theorem dX9_forecast_0 : decode cX9_forecast 0 = .ok (.aload_n 0, 1) := by decide +kernel
theorem dX9_forecast_1 : decode cX9_forecast 1 = .ok (.iconst 0, 1) := by decide +kernel
theorem dX9_forecast_2 : decode cX9_forecast 2 = .ok (.putfield 95, 3) := by decide +kernel
theorem dX9_forecast_5 : decode cX9_forecast 5 = .ok (.aload_n 0, 1) := by decide +kernel
theorem dX9_forecast_6 : decode cX9_forecast 6 = .ok (.iload_n 1, 1) := by decide +kernel
theorem dX9_forecast_7 : decode cX9_forecast 7 = .ok (.invokevirtual 153, 3) := by decide +kernel
theorem dX9_forecast_10 : decode cX9_forecast 10 = .ok (.ifCond .eq 33, 3) := by decide +kernel
theorem dX9_forecast_13 : decode cX9_forecast 13 = .ok (.iload_n 2, 1) := by decide +kernel
theorem dX9_forecast_14 : decode cX9_forecast 14 = .ok (.invokestatic 115, 3) := by decide +kernel
theorem dX9_forecast_17 : decode cX9_forecast 17 = .ok (.ifCond .eq 26, 3) := by decide +kernel
theorem dX9_forecast_20 : decode cX9_forecast 20 = .ok (.iload_n 3, 1) := by decide +kernel
theorem dX9_forecast_21 : decode cX9_forecast 21 = .ok (.iconst 0, 1) := by decide +kernel
theorem dX9_forecast_22 : decode cX9_forecast 22 = .ok (.sipush 1440, 3) := by decide +kernel
theorem dX9_forecast_25 : decode cX9_forecast 25 = .ok (.invokestatic 99, 3) := by decide +kernel
theorem dX9_forecast_28 : decode cX9_forecast 28 = .ok (.ifCond .eq 15, 3) := by decide +kernel
theorem dX9_forecast_31 : decode cX9_forecast 31 = .ok (.iload 4, 2) := by decide +kernel
theorem dX9_forecast_33 : decode cX9_forecast 33 = .ok (.iconst 0, 1) := by decide +kernel
theorem dX9_forecast_34 : decode cX9_forecast 34 = .ok (.sipush 1440, 3) := by decide +kernel
theorem dX9_forecast_37 : decode cX9_forecast 37 = .ok (.invokestatic 99, 3) := by decide +kernel
theorem dX9_forecast_40 : decode cX9_forecast 40 = .ok (.ifCond .ne 5, 3) := by decide +kernel
theorem dX9_forecast_43 : decode cX9_forecast 43 = .ok (.iconst (-1), 1) := by decide +kernel
theorem dX9_forecast_44 : decode cX9_forecast 44 = .ok (.ireturn, 1) := by decide +kernel
theorem dX9_forecast_45 : decode cX9_forecast 45 = .ok (.bipush 100, 2) := by decide +kernel
theorem dX9_forecast_47 : decode cX9_forecast 47 = .ok (.iload_n 2, 1) := by decide +kernel
theorem dX9_forecast_48 : decode cX9_forecast 48 = .ok (.imul, 1) := by decide +kernel
theorem dX9_forecast_49 : decode cX9_forecast 49 = .ok (.bipush 99, 2) := by decide +kernel
theorem dX9_forecast_51 : decode cX9_forecast 51 = .ok (.iadd, 1) := by decide +kernel
theorem dX9_forecast_52 : decode cX9_forecast 52 = .ok (.istore 6, 2) := by decide +kernel
theorem dX9_forecast_54 : decode cX9_forecast 54 = .ok (.aload_n 0, 1) := by decide +kernel
theorem dX9_forecast_55 : decode cX9_forecast 55 = .ok (.iload 6, 2) := by decide +kernel
theorem dX9_forecast_57 : decode cX9_forecast 57 = .ok (.invokevirtual 189, 3) := by decide +kernel
theorem dX9_forecast_60 : decode cX9_forecast 60 = .ok (.istore 7, 2) := by decide +kernel
theorem dX9_forecast_62 : decode cX9_forecast 62 = .ok (.iconst 0, 1) := by decide +kernel
theorem dX9_forecast_63 : decode cX9_forecast 63 = .ok (.istore 8, 2) := by decide +kernel
theorem dX9_forecast_65 : decode cX9_forecast 65 = .ok (.iconst 0, 1) := by decide +kernel
theorem dX9_forecast_66 : decode cX9_forecast 66 = .ok (.istore 9, 2) := by decide +kernel
theorem dX9_forecast_68 : decode cX9_forecast 68 = .ok (.iload 9, 2) := by decide +kernel
theorem dX9_forecast_70 : decode cX9_forecast 70 = .ok (.bipush 40, 2) := by decide +kernel
theorem dX9_forecast_72 : decode cX9_forecast 72 = .ok (.if_icmp .ge 111, 3) := by decide +kernel
theorem dX9_forecast_75 : decode cX9_forecast 75 = .ok (.iconst 0, 1) := by decide +kernel
theorem dX9_forecast_76 : decode cX9_forecast 76 = .ok (.istore 10, 2) := by decide +kernel
theorem dX9_forecast_78 : decode cX9_forecast 78 = .ok (.iload 10, 2) := by decide +kernel
theorem dX9_forecast_80 : decode cX9_forecast 80 = .ok (.bipush 16, 2) := by decide +kernel
theorem dX9_forecast_82 : decode cX9_forecast 82 = .ok (.if_icmp .ge 95, 3) := by decide +kernel
theorem dX9_forecast_85 : decode cX9_forecast 85 = .ok (.aload_n 0, 1) := by decide +kernel
theorem dX9_forecast_86 : decode cX9_forecast 86 = .ok (.iload 9, 2) := by decide +kernel
theorem dX9_forecast_88 : decode cX9_forecast 88 = .ok (.iload_n 1, 1) := by decide +kernel
theorem dX9_forecast_89 : decode cX9_forecast 89 = .ok (.invokevirtual 219, 3) := by decide +kernel
theorem dX9_forecast_92 : decode cX9_forecast 92 = .ok (.ifCond .eq 79, 3) := by decide +kernel
theorem dX9_forecast_95 : decode cX9_forecast 95 = .ok (.aload_n 0, 1) := by decide +kernel
theorem dX9_forecast_96 : decode cX9_forecast 96 = .ok (.getfield 31, 3) := by decide +kernel
theorem dX9_forecast_99 : decode cX9_forecast 99 = .ok (.iload 10, 2) := by decide +kernel
theorem dX9_forecast_101 : decode cX9_forecast 101 = .ok (.iaload, 1) := by decide +kernel
theorem dX9_forecast_102 : decode cX9_forecast 102 = .ok (.iconst (-1), 1) := by decide +kernel
theorem dX9_forecast_103 : decode cX9_forecast 103 = .ok (.if_icmp .eq 68, 3) := by decide +kernel
theorem dX9_forecast_106 : decode cX9_forecast 106 = .ok (.aload_n 0, 1) := by decide +kernel
theorem dX9_forecast_107 : decode cX9_forecast 107 = .ok (.iload 9, 2) := by decide +kernel
theorem dX9_forecast_109 : decode cX9_forecast 109 = .ok (.iload 10, 2) := by decide +kernel
theorem dX9_forecast_111 : decode cX9_forecast 111 = .ok (.iload 6, 2) := by decide +kernel
theorem dX9_forecast_113 : decode cX9_forecast 113 = .ok (.invokevirtual 213, 3) := by decide +kernel
theorem dX9_forecast_116 : decode cX9_forecast 116 = .ok (.ifCond .ne 6, 3) := by decide +kernel
theorem dX9_forecast_119 : decode cX9_forecast 119 = .ok (.goto 52, 3) := by decide +kernel
theorem dX9_forecast_122 : decode cX9_forecast 122 = .ok (.aload_n 0, 1) := by decide +kernel
theorem dX9_forecast_123 : decode cX9_forecast 123 = .ok (.iload 9, 2) := by decide +kernel
theorem dX9_forecast_125 : decode cX9_forecast 125 = .ok (.iload 10, 2) := by decide +kernel
theorem dX9_forecast_127 : decode cX9_forecast 127 = .ok (.iload_n 2, 1) := by decide +kernel
theorem dX9_forecast_128 : decode cX9_forecast 128 = .ok (.iload_n 3, 1) := by decide +kernel
theorem dX9_forecast_129 : decode cX9_forecast 129 = .ok (.iload 4, 2) := by decide +kernel
theorem dX9_forecast_131 : decode cX9_forecast 131 = .ok (.invokevirtual 232, 3) := by decide +kernel
theorem dX9_forecast_134 : decode cX9_forecast 134 = .ok (.istore 11, 2) := by decide +kernel
theorem dX9_forecast_136 : decode cX9_forecast 136 = .ok (.iload 11, 2) := by decide +kernel
theorem dX9_forecast_138 : decode cX9_forecast 138 = .ok (.ldc 236, 2) := by decide +kernel
theorem dX9_forecast_140 : decode cX9_forecast 140 = .ok (.if_icmp .le 6, 3) := by decide +kernel
theorem dX9_forecast_143 : decode cX9_forecast 143 = .ok (.goto 28, 3) := by decide +kernel
theorem dX9_forecast_146 : decode cX9_forecast 146 = .ok (.aload_n 0, 1) := by decide +kernel
theorem dX9_forecast_147 : decode cX9_forecast 147 = .ok (.getfield 92, 3) := by decide +kernel
theorem dX9_forecast_150 : decode cX9_forecast 150 = .ok (.iload 8, 2) := by decide +kernel
theorem dX9_forecast_152 : decode cX9_forecast 152 = .ok (.sipush 640, 3) := by decide +kernel
theorem dX9_forecast_155 : decode cX9_forecast 155 = .ok (.iload 11, 2) := by decide +kernel
theorem dX9_forecast_157 : decode cX9_forecast 157 = .ok (.imul, 1) := by decide +kernel
theorem dX9_forecast_158 : decode cX9_forecast 158 = .ok (.bipush 16, 2) := by decide +kernel
theorem dX9_forecast_160 : decode cX9_forecast 160 = .ok (.iload 9, 2) := by decide +kernel
theorem dX9_forecast_162 : decode cX9_forecast 162 = .ok (.imul, 1) := by decide +kernel
theorem dX9_forecast_163 : decode cX9_forecast 163 = .ok (.iadd, 1) := by decide +kernel
theorem dX9_forecast_164 : decode cX9_forecast 164 = .ok (.iload 10, 2) := by decide +kernel
theorem dX9_forecast_166 : decode cX9_forecast 166 = .ok (.iadd, 1) := by decide +kernel
theorem dX9_forecast_167 : decode cX9_forecast 167 = .ok (.iastore, 1) := by decide +kernel
theorem dX9_forecast_168 : decode cX9_forecast 168 = .ok (.iinc 8 1, 3) := by decide +kernel
theorem dX9_forecast_171 : decode cX9_forecast 171 = .ok (.iinc 10 1, 3) := by decide +kernel
theorem dX9_forecast_174 : decode cX9_forecast 174 = .ok (.goto (-96), 3) := by decide +kernel
theorem dX9_forecast_177 : decode cX9_forecast 177 = .ok (.iinc 9 1, 3) := by decide +kernel
theorem dX9_forecast_180 : decode cX9_forecast 180 = .ok (.goto (-112), 3) := by decide +kernel
theorem dX9_forecast_183 : decode cX9_forecast 183 = .ok (.iconst 0, 1) := by decide +kernel
theorem dX9_forecast_184 : decode cX9_forecast 184 = .ok (.istore 9, 2) := by decide +kernel
theorem dX9_forecast_186 : decode cX9_forecast 186 = .ok (.iload 9, 2) := by decide +kernel
theorem dX9_forecast_188 : decode cX9_forecast 188 = .ok (.iload 8, 2) := by decide +kernel
theorem dX9_forecast_190 : decode cX9_forecast 190 = .ok (.if_icmp .ge 70, 3) := by decide +kernel
theorem dX9_forecast_193 : decode cX9_forecast 193 = .ok (.iconst 0, 1) := by decide +kernel
theorem dX9_forecast_194 : decode cX9_forecast 194 = .ok (.istore 10, 2) := by decide +kernel
theorem dX9_forecast_196 : decode cX9_forecast 196 = .ok (.iconst 0, 1) := by decide +kernel
theorem dX9_forecast_197 : decode cX9_forecast 197 = .ok (.istore 11, 2) := by decide +kernel
theorem dX9_forecast_199 : decode cX9_forecast 199 = .ok (.iload 11, 2) := by decide +kernel
theorem dX9_forecast_201 : decode cX9_forecast 201 = .ok (.iload 8, 2) := by decide +kernel
theorem dX9_forecast_203 : decode cX9_forecast 203 = .ok (.if_icmp .ge 36, 3) := by decide +kernel
theorem dX9_forecast_206 : decode cX9_forecast 206 = .ok (.iload 10, 2) := by decide +kernel
theorem dX9_forecast_208 : decode cX9_forecast 208 = .ok (.aload_n 0, 1) := by decide +kernel
theorem dX9_forecast_209 : decode cX9_forecast 209 = .ok (.getfield 92, 3) := by decide +kernel
theorem dX9_forecast_212 : decode cX9_forecast 212 = .ok (.iload 11, 2) := by decide +kernel
theorem dX9_forecast_214 : decode cX9_forecast 214 = .ok (.iaload, 1) := by decide +kernel
theorem dX9_forecast_215 : decode cX9_forecast 215 = .ok (.aload_n 0, 1) := by decide +kernel
theorem dX9_forecast_216 : decode cX9_forecast 216 = .ok (.getfield 92, 3) := by decide +kernel
theorem dX9_forecast_219 : decode cX9_forecast 219 = .ok (.iload 9, 2) := by decide +kernel
theorem dX9_forecast_221 : decode cX9_forecast 221 = .ok (.iaload, 1) := by decide +kernel
theorem dX9_forecast_222 : decode cX9_forecast 222 = .ok (.if_icmp .ge 7, 3) := by decide +kernel
theorem dX9_forecast_225 : decode cX9_forecast 225 = .ok (.iconst 1, 1) := by decide +kernel
theorem dX9_forecast_226 : decode cX9_forecast 226 = .ok (.goto 4, 3) := by decide +kernel
theorem dX9_forecast_229 : decode cX9_forecast 229 = .ok (.iconst 0, 1) := by decide +kernel
theorem dX9_forecast_230 : decode cX9_forecast 230 = .ok (.iadd, 1) := by decide +kernel
theorem dX9_forecast_231 : decode cX9_forecast 231 = .ok (.istore 10, 2) := by decide +kernel
theorem dX9_forecast_233 : decode cX9_forecast 233 = .ok (.iinc 11 1, 3) := by decide +kernel
theorem dX9_forecast_236 : decode cX9_forecast 236 = .ok (.goto (-37), 3) := by decide +kernel
theorem dX9_forecast_239 : decode cX9_forecast 239 = .ok (.iload 10, 2) := by decide +kernel
theorem dX9_forecast_241 : decode cX9_forecast 241 = .ok (.iload 5, 2) := by decide +kernel
theorem dX9_forecast_243 : decode cX9_forecast 243 = .ok (.if_icmp .ne 11, 3) := by decide +kernel
theorem dX9_forecast_246 : decode cX9_forecast 246 = .ok (.aload_n 0, 1) := by decide +kernel
theorem dX9_forecast_247 : decode cX9_forecast 247 = .ok (.getfield 92, 3) := by decide +kernel
theorem dX9_forecast_250 : decode cX9_forecast 250 = .ok (.iload 9, 2) := by decide +kernel
theorem dX9_forecast_252 : decode cX9_forecast 252 = .ok (.iaload, 1) := by decide +kernel
theorem dX9_forecast_253 : decode cX9_forecast 253 = .ok (.ireturn, 1) := by decide +kernel
theorem dX9_forecast_254 : decode cX9_forecast 254 = .ok (.iinc 9 1, 3) := by decide +kernel
theorem dX9_forecast_257 : decode cX9_forecast 257 = .ok (.goto (-71), 3) := by decide +kernel
theorem dX9_forecast_260 : decode cX9_forecast 260 = .ok (.iconst (-1), 1) := by decide +kernel
theorem dX9_forecast_261 : decode cX9_forecast 261 = .ok (.ireturn, 1) := by decide +kernel
