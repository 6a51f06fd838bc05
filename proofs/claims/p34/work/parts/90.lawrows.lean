theorem dL_drawn_0 : decode cL_drawn 0 = .ok (.iload_n 1, 1) := by decide +kernel
theorem dL_drawn_1 : decode cL_drawn 1 = .ok (.aload_n 0, 1) := by decide +kernel
theorem dL_drawn_2 : decode cL_drawn 2 = .ok (.arraylength, 1) := by decide +kernel
theorem dL_drawn_3 : decode cL_drawn 3 = .ok (.if_icmp .ge 9, 3) := by decide +kernel
theorem dL_drawn_6 : decode cL_drawn 6 = .ok (.aload_n 0, 1) := by decide +kernel
theorem dL_drawn_7 : decode cL_drawn 7 = .ok (.iload_n 1, 1) := by decide +kernel
theorem dL_drawn_8 : decode cL_drawn 8 = .ok (.iaload, 1) := by decide +kernel
theorem dL_drawn_9 : decode cL_drawn 9 = .ok (.goto 13, 3) := by decide +kernel
theorem dL_drawn_12 : decode cL_drawn 12 = .ok (.ldc 81, 2) := by decide +kernel
theorem dL_drawn_14 : decode cL_drawn 14 = .ok (.iload_n 1, 1) := by decide +kernel
theorem dL_drawn_15 : decode cL_drawn 15 = .ok (.iconst 3, 1) := by decide +kernel
theorem dL_drawn_16 : decode cL_drawn 16 = .ok (.iadd, 1) := by decide +kernel
theorem dL_drawn_17 : decode cL_drawn 17 = .ok (.imul, 1) := by decide +kernel
theorem dL_drawn_18 : decode cL_drawn 18 = .ok (.sipush 13411, 3) := by decide +kernel
theorem dL_drawn_21 : decode cL_drawn 21 = .ok (.iadd, 1) := by decide +kernel
theorem dL_drawn_22 : decode cL_drawn 22 = .ok (.ldc 82, 2) := by decide +kernel
theorem dL_drawn_24 : decode cL_drawn 24 = .ok (.iand, 1) := by decide +kernel
theorem dL_drawn_25 : decode cL_drawn 25 = .ok (.ireturn, 1) := by decide +kernel
theorem dL_refuses_0 : decode cL_refuses 0 = .ok (.iload_n 1, 1) := by decide +kernel
theorem dL_refuses_1 : decode cL_refuses 1 = .ok (.iconst 2, 1) := by decide +kernel
theorem dL_refuses_2 : decode cL_refuses 2 = .ok (.irem, 1) := by decide +kernel
theorem dL_refuses_3 : decode cL_refuses 3 = .ok (.ifCond .ne 12, 3) := by decide +kernel
theorem dL_refuses_6 : decode cL_refuses 6 = .ok (.iconst (-1), 1) := by decide +kernel
theorem dL_refuses_7 : decode cL_refuses 7 = .ok (.iload_n 1, 1) := by decide +kernel
theorem dL_refuses_8 : decode cL_refuses 8 = .ok (.bipush 50, 2) := by decide +kernel
theorem dL_refuses_10 : decode cL_refuses 10 = .ok (.irem, 1) := by decide +kernel
theorem dL_refuses_11 : decode cL_refuses 11 = .ok (.isub, 1) := by decide +kernel
theorem dL_refuses_12 : decode cL_refuses 12 = .ok (.goto 12, 3) := by decide +kernel
theorem dL_refuses_15 : decode cL_refuses 15 = .ok (.aload_n 0, 1) := by decide +kernel
theorem dL_refuses_16 : decode cL_refuses 16 = .ok (.invokevirtual 83, 3) := by decide +kernel
theorem dL_refuses_19 : decode cL_refuses 19 = .ok (.iload_n 1, 1) := by decide +kernel
theorem dL_refuses_20 : decode cL_refuses 20 = .ok (.bipush 50, 2) := by decide +kernel
theorem dL_refuses_22 : decode cL_refuses 22 = .ok (.irem, 1) := by decide +kernel
theorem dL_refuses_23 : decode cL_refuses 23 = .ok (.iadd, 1) := by decide +kernel
theorem dL_refuses_24 : decode cL_refuses 24 = .ok (.istore_n 2, 1) := by decide +kernel
theorem dL_refuses_25 : decode cL_refuses 25 = .ok (.aload_n 0, 1) := by decide +kernel
theorem dL_refuses_26 : decode cL_refuses 26 = .ok (.ldc 86, 2) := by decide +kernel
theorem dL_refuses_28 : decode cL_refuses 28 = .ok (.iload_n 1, 1) := by decide +kernel
theorem dL_refuses_29 : decode cL_refuses 29 = .ok (.iadd, 1) := by decide +kernel
theorem dL_refuses_30 : decode cL_refuses 30 = .ok (.invokestatic 87, 3) := by decide +kernel
theorem dL_refuses_33 : decode cL_refuses 33 = .ok (.ldc 15, 2) := by decide +kernel
theorem dL_refuses_35 : decode cL_refuses 35 = .ok (.if_icmp .ne 165, 3) := by decide +kernel
theorem dL_refuses_38 : decode cL_refuses 38 = .ok (.aload_n 0, 1) := by decide +kernel
theorem dL_refuses_39 : decode cL_refuses 39 = .ok (.iconst 0, 1) := by decide +kernel
theorem dL_refuses_40 : decode cL_refuses 40 = .ok (.invokestatic 93, 3) := by decide +kernel
theorem dL_refuses_43 : decode cL_refuses 43 = .ok (.ldc2_w 20, 3) := by decide +kernel
theorem dL_refuses_46 : decode cL_refuses 46 = .ok (.lcmp, 1) := by decide +kernel
theorem dL_refuses_47 : decode cL_refuses 47 = .ok (.ifCond .ne 153, 3) := by decide +kernel
theorem dL_refuses_50 : decode cL_refuses 50 = .ok (.aload_n 0, 1) := by decide +kernel
theorem dL_refuses_51 : decode cL_refuses 51 = .ok (.iconst (-1), 1) := by decide +kernel
theorem dL_refuses_52 : decode cL_refuses 52 = .ok (.iload_n 1, 1) := by decide +kernel
theorem dL_refuses_53 : decode cL_refuses 53 = .ok (.isub, 1) := by decide +kernel
theorem dL_refuses_54 : decode cL_refuses 54 = .ok (.invokestatic 93, 3) := by decide +kernel
theorem dL_refuses_57 : decode cL_refuses 57 = .ok (.ldc2_w 20, 3) := by decide +kernel
theorem dL_refuses_60 : decode cL_refuses 60 = .ok (.lcmp, 1) := by decide +kernel
theorem dL_refuses_61 : decode cL_refuses 61 = .ok (.ifCond .ne 139, 3) := by decide +kernel
theorem dL_refuses_64 : decode cL_refuses 64 = .ok (.aload_n 0, 1) := by decide +kernel
theorem dL_refuses_65 : decode cL_refuses 65 = .ok (.ldc 86, 2) := by decide +kernel
theorem dL_refuses_67 : decode cL_refuses 67 = .ok (.iload_n 1, 1) := by decide +kernel
theorem dL_refuses_68 : decode cL_refuses 68 = .ok (.iadd, 1) := by decide +kernel
theorem dL_refuses_69 : decode cL_refuses 69 = .ok (.invokestatic 93, 3) := by decide +kernel
theorem dL_refuses_72 : decode cL_refuses 72 = .ok (.ldc2_w 20, 3) := by decide +kernel
theorem dL_refuses_75 : decode cL_refuses 75 = .ok (.lcmp, 1) := by decide +kernel
theorem dL_refuses_76 : decode cL_refuses 76 = .ok (.ifCond .ne 124, 3) := by decide +kernel
theorem dL_refuses_79 : decode cL_refuses 79 = .ok (.aload_n 0, 1) := by decide +kernel
theorem dL_refuses_80 : decode cL_refuses 80 = .ok (.sipush 301, 3) := by decide +kernel
theorem dL_refuses_83 : decode cL_refuses 83 = .ok (.iload_n 1, 1) := by decide +kernel
theorem dL_refuses_84 : decode cL_refuses 84 = .ok (.iadd, 1) := by decide +kernel
theorem dL_refuses_85 : decode cL_refuses 85 = .ok (.invokestatic 97, 3) := by decide +kernel
theorem dL_refuses_88 : decode cL_refuses 88 = .ok (.ldc 15, 2) := by decide +kernel
theorem dL_refuses_90 : decode cL_refuses 90 = .ok (.if_icmp .ne 110, 3) := by decide +kernel
theorem dL_refuses_93 : decode cL_refuses 93 = .ok (.aload_n 0, 1) := by decide +kernel
theorem dL_refuses_94 : decode cL_refuses 94 = .ok (.sipush (-301), 3) := by decide +kernel
theorem dL_refuses_97 : decode cL_refuses 97 = .ok (.invokestatic 97, 3) := by decide +kernel
theorem dL_refuses_100 : decode cL_refuses 100 = .ok (.ldc 15, 2) := by decide +kernel
theorem dL_refuses_102 : decode cL_refuses 102 = .ok (.if_icmp .ne 98, 3) := by decide +kernel
theorem dL_refuses_105 : decode cL_refuses 105 = .ok (.aload_n 0, 1) := by decide +kernel
theorem dL_refuses_106 : decode cL_refuses 106 = .ok (.iconst (-1), 1) := by decide +kernel
theorem dL_refuses_107 : decode cL_refuses 107 = .ok (.iconst 1, 1) := by decide +kernel
theorem dL_refuses_108 : decode cL_refuses 108 = .ok (.invokestatic 100, 3) := by decide +kernel
theorem dL_refuses_111 : decode cL_refuses 111 = .ok (.ldc2_w 20, 3) := by decide +kernel
theorem dL_refuses_114 : decode cL_refuses 114 = .ok (.lcmp, 1) := by decide +kernel
theorem dL_refuses_115 : decode cL_refuses 115 = .ok (.ifCond .ne 85, 3) := by decide +kernel
theorem dL_refuses_118 : decode cL_refuses 118 = .ok (.aload_n 0, 1) := by decide +kernel
theorem dL_refuses_119 : decode cL_refuses 119 = .ok (.bipush 21, 2) := by decide +kernel
theorem dL_refuses_121 : decode cL_refuses 121 = .ok (.iload_n 1, 1) := by decide +kernel
theorem dL_refuses_122 : decode cL_refuses 122 = .ok (.iadd, 1) := by decide +kernel
theorem dL_refuses_123 : decode cL_refuses 123 = .ok (.iconst 0, 1) := by decide +kernel
theorem dL_refuses_124 : decode cL_refuses 124 = .ok (.invokestatic 100, 3) := by decide +kernel
theorem dL_refuses_127 : decode cL_refuses 127 = .ok (.ldc2_w 20, 3) := by decide +kernel
theorem dL_refuses_130 : decode cL_refuses 130 = .ok (.lcmp, 1) := by decide +kernel
theorem dL_refuses_131 : decode cL_refuses 131 = .ok (.ifCond .ne 69, 3) := by decide +kernel
theorem dL_refuses_134 : decode cL_refuses 134 = .ok (.aload_n 0, 1) := by decide +kernel
theorem dL_refuses_135 : decode cL_refuses 135 = .ok (.iconst 0, 1) := by decide +kernel
theorem dL_refuses_136 : decode cL_refuses 136 = .ok (.iconst 0, 1) := by decide +kernel
theorem dL_refuses_137 : decode cL_refuses 137 = .ok (.iconst 0, 1) := by decide +kernel
theorem dL_refuses_138 : decode cL_refuses 138 = .ok (.iconst 0, 1) := by decide +kernel
theorem dL_refuses_139 : decode cL_refuses 139 = .ok (.invokestatic 104, 3) := by decide +kernel
theorem dL_refuses_142 : decode cL_refuses 142 = .ok (.ldc 15, 2) := by decide +kernel
theorem dL_refuses_144 : decode cL_refuses 144 = .ok (.if_icmp .ne 56, 3) := by decide +kernel
theorem dL_refuses_147 : decode cL_refuses 147 = .ok (.aload_n 0, 1) := by decide +kernel
theorem dL_refuses_148 : decode cL_refuses 148 = .ok (.iconst 1, 1) := by decide +kernel
theorem dL_refuses_149 : decode cL_refuses 149 = .ok (.ldc 108, 2) := by decide +kernel
theorem dL_refuses_151 : decode cL_refuses 151 = .ok (.iconst 0, 1) := by decide +kernel
theorem dL_refuses_152 : decode cL_refuses 152 = .ok (.iconst 0, 1) := by decide +kernel
theorem dL_refuses_153 : decode cL_refuses 153 = .ok (.invokestatic 104, 3) := by decide +kernel
theorem dL_refuses_156 : decode cL_refuses 156 = .ok (.ldc 15, 2) := by decide +kernel
theorem dL_refuses_158 : decode cL_refuses 158 = .ok (.if_icmp .ne 42, 3) := by decide +kernel
theorem dL_refuses_161 : decode cL_refuses 161 = .ok (.aload_n 0, 1) := by decide +kernel
theorem dL_refuses_162 : decode cL_refuses 162 = .ok (.iconst 1, 1) := by decide +kernel
theorem dL_refuses_163 : decode cL_refuses 163 = .ok (.iconst 0, 1) := by decide +kernel
theorem dL_refuses_164 : decode cL_refuses 164 = .ok (.iconst (-1), 1) := by decide +kernel
theorem dL_refuses_165 : decode cL_refuses 165 = .ok (.iconst 0, 1) := by decide +kernel
theorem dL_refuses_166 : decode cL_refuses 166 = .ok (.invokestatic 104, 3) := by decide +kernel
theorem dL_refuses_169 : decode cL_refuses 169 = .ok (.ldc 15, 2) := by decide +kernel
theorem dL_refuses_171 : decode cL_refuses 171 = .ok (.if_icmp .ne 29, 3) := by decide +kernel
theorem dL_refuses_174 : decode cL_refuses 174 = .ok (.aload_n 0, 1) := by decide +kernel
theorem dL_refuses_175 : decode cL_refuses 175 = .ok (.invokevirtual 83, 3) := by decide +kernel
theorem dL_refuses_178 : decode cL_refuses 178 = .ok (.bipush 8, 2) := by decide +kernel
theorem dL_refuses_180 : decode cL_refuses 180 = .ok (.if_icmp .lt 16, 3) := by decide +kernel
theorem dL_refuses_183 : decode cL_refuses 183 = .ok (.aload_n 0, 1) := by decide +kernel
theorem dL_refuses_184 : decode cL_refuses 184 = .ok (.iconst 1, 1) := by decide +kernel
theorem dL_refuses_185 : decode cL_refuses 185 = .ok (.iconst 0, 1) := by decide +kernel
theorem dL_refuses_186 : decode cL_refuses 186 = .ok (.iconst 0, 1) := by decide +kernel
theorem dL_refuses_187 : decode cL_refuses 187 = .ok (.iconst 0, 1) := by decide +kernel
theorem dL_refuses_188 : decode cL_refuses 188 = .ok (.invokestatic 104, 3) := by decide +kernel
theorem dL_refuses_191 : decode cL_refuses 191 = .ok (.ldc 38, 2) := by decide +kernel
theorem dL_refuses_193 : decode cL_refuses 193 = .ok (.if_icmp .ne 7, 3) := by decide +kernel
theorem dL_refuses_196 : decode cL_refuses 196 = .ok (.iconst 1, 1) := by decide +kernel
theorem dL_refuses_197 : decode cL_refuses 197 = .ok (.goto 4, 3) := by decide +kernel
theorem dL_refuses_200 : decode cL_refuses 200 = .ok (.iconst 0, 1) := by decide +kernel
theorem dL_refuses_201 : decode cL_refuses 201 = .ok (.istore_n 3, 1) := by decide +kernel
theorem dL_refuses_202 : decode cL_refuses 202 = .ok (.iload_n 3, 1) := by decide +kernel
theorem dL_refuses_203 : decode cL_refuses 203 = .ok (.ifCond .eq 148, 3) := by decide +kernel
theorem dL_refuses_206 : decode cL_refuses 206 = .ok (.aload_n 0, 1) := by decide +kernel
theorem dL_refuses_207 : decode cL_refuses 207 = .ok (.iload_n 2, 1) := by decide +kernel
theorem dL_refuses_208 : decode cL_refuses 208 = .ok (.ldc 109, 2) := by decide +kernel
theorem dL_refuses_210 : decode cL_refuses 210 = .ok (.invokestatic 110, 3) := by decide +kernel
theorem dL_refuses_213 : decode cL_refuses 213 = .ok (.ldc 45, 2) := by decide +kernel
theorem dL_refuses_215 : decode cL_refuses 215 = .ok (.if_icmp .ne 136, 3) := by decide +kernel
theorem dL_refuses_218 : decode cL_refuses 218 = .ok (.aload_n 0, 1) := by decide +kernel
theorem dL_refuses_219 : decode cL_refuses 219 = .ok (.iload_n 2, 1) := by decide +kernel
theorem dL_refuses_220 : decode cL_refuses 220 = .ok (.iconst (-1), 1) := by decide +kernel
theorem dL_refuses_221 : decode cL_refuses 221 = .ok (.iconst 0, 1) := by decide +kernel
theorem dL_refuses_222 : decode cL_refuses 222 = .ok (.iconst 0, 1) := by decide +kernel
theorem dL_refuses_223 : decode cL_refuses 223 = .ok (.invokestatic 114, 3) := by decide +kernel
theorem dL_refuses_226 : decode cL_refuses 226 = .ok (.ldc2_w 50, 3) := by decide +kernel
theorem dL_refuses_229 : decode cL_refuses 229 = .ok (.lcmp, 1) := by decide +kernel
theorem dL_refuses_230 : decode cL_refuses 230 = .ok (.ifCond .ne 121, 3) := by decide +kernel
theorem dL_refuses_233 : decode cL_refuses 233 = .ok (.aload_n 0, 1) := by decide +kernel
theorem dL_refuses_234 : decode cL_refuses 234 = .ok (.iload_n 2, 1) := by decide +kernel
theorem dL_refuses_235 : decode cL_refuses 235 = .ok (.invokestatic 118, 3) := by decide +kernel
theorem dL_refuses_238 : decode cL_refuses 238 = .ok (.ldc 45, 2) := by decide +kernel
theorem dL_refuses_240 : decode cL_refuses 240 = .ok (.if_icmp .ne 111, 3) := by decide +kernel
theorem dL_refuses_243 : decode cL_refuses 243 = .ok (.aload_n 0, 1) := by decide +kernel
theorem dL_refuses_244 : decode cL_refuses 244 = .ok (.iload_n 2, 1) := by decide +kernel
theorem dL_refuses_245 : decode cL_refuses 245 = .ok (.invokestatic 120, 3) := by decide +kernel
theorem dL_refuses_248 : decode cL_refuses 248 = .ok (.ldc2_w 50, 3) := by decide +kernel
theorem dL_refuses_251 : decode cL_refuses 251 = .ok (.lcmp, 1) := by decide +kernel
theorem dL_refuses_252 : decode cL_refuses 252 = .ok (.ifCond .ne 99, 3) := by decide +kernel
theorem dL_refuses_255 : decode cL_refuses 255 = .ok (.aload_n 0, 1) := by decide +kernel
theorem dL_refuses_256 : decode cL_refuses 256 = .ok (.iload_n 2, 1) := by decide +kernel
theorem dL_refuses_257 : decode cL_refuses 257 = .ok (.invokestatic 122, 3) := by decide +kernel
theorem dL_refuses_260 : decode cL_refuses 260 = .ok (.ldc2_w 50, 3) := by decide +kernel
theorem dL_refuses_263 : decode cL_refuses 263 = .ok (.lcmp, 1) := by decide +kernel
theorem dL_refuses_264 : decode cL_refuses 264 = .ok (.ifCond .ne 87, 3) := by decide +kernel
theorem dL_refuses_267 : decode cL_refuses 267 = .ok (.aload_n 0, 1) := by decide +kernel
theorem dL_refuses_268 : decode cL_refuses 268 = .ok (.iload_n 2, 1) := by decide +kernel
theorem dL_refuses_269 : decode cL_refuses 269 = .ok (.invokestatic 124, 3) := by decide +kernel
theorem dL_refuses_272 : decode cL_refuses 272 = .ok (.ldc2_w 50, 3) := by decide +kernel
theorem dL_refuses_275 : decode cL_refuses 275 = .ok (.lcmp, 1) := by decide +kernel
theorem dL_refuses_276 : decode cL_refuses 276 = .ok (.ifCond .ne 75, 3) := by decide +kernel
theorem dL_refuses_279 : decode cL_refuses 279 = .ok (.aload_n 0, 1) := by decide +kernel
theorem dL_refuses_280 : decode cL_refuses 280 = .ok (.iload_n 2, 1) := by decide +kernel
theorem dL_refuses_281 : decode cL_refuses 281 = .ok (.invokestatic 126, 3) := by decide +kernel
theorem dL_refuses_284 : decode cL_refuses 284 = .ok (.ldc2_w 50, 3) := by decide +kernel
theorem dL_refuses_287 : decode cL_refuses 287 = .ok (.lcmp, 1) := by decide +kernel
theorem dL_refuses_288 : decode cL_refuses 288 = .ok (.ifCond .ne 63, 3) := by decide +kernel
theorem dL_refuses_291 : decode cL_refuses 291 = .ok (.aload_n 0, 1) := by decide +kernel
theorem dL_refuses_292 : decode cL_refuses 292 = .ok (.invokevirtual 128, 3) := by decide +kernel
theorem dL_refuses_295 : decode cL_refuses 295 = .ok (.ifCond .ne 12, 3) := by decide +kernel
theorem dL_refuses_298 : decode cL_refuses 298 = .ok (.aload_n 0, 1) := by decide +kernel
theorem dL_refuses_299 : decode cL_refuses 299 = .ok (.invokestatic 132, 3) := by decide +kernel
theorem dL_refuses_302 : decode cL_refuses 302 = .ok (.ldc 38, 2) := by decide +kernel
theorem dL_refuses_304 : decode cL_refuses 304 = .ok (.if_icmp .ne 47, 3) := by decide +kernel
theorem dL_refuses_307 : decode cL_refuses 307 = .ok (.aload_n 0, 1) := by decide +kernel
theorem dL_refuses_308 : decode cL_refuses 308 = .ok (.invokevirtual 136, 3) := by decide +kernel
theorem dL_refuses_311 : decode cL_refuses 311 = .ok (.ifCond .gt 36, 3) := by decide +kernel
theorem dL_refuses_314 : decode cL_refuses 314 = .ok (.aload_n 0, 1) := by decide +kernel
theorem dL_refuses_315 : decode cL_refuses 315 = .ok (.invokestatic 139, 3) := by decide +kernel
theorem dL_refuses_318 : decode cL_refuses 318 = .ok (.ldc2_w 24, 3) := by decide +kernel
theorem dL_refuses_321 : decode cL_refuses 321 = .ok (.lcmp, 1) := by decide +kernel
theorem dL_refuses_322 : decode cL_refuses 322 = .ok (.ifCond .ne 29, 3) := by decide +kernel
theorem dL_refuses_325 : decode cL_refuses 325 = .ok (.aload_n 0, 1) := by decide +kernel
theorem dL_refuses_326 : decode cL_refuses 326 = .ok (.invokestatic 142, 3) := by decide +kernel
theorem dL_refuses_329 : decode cL_refuses 329 = .ok (.ldc2_w 24, 3) := by decide +kernel
theorem dL_refuses_332 : decode cL_refuses 332 = .ok (.lcmp, 1) := by decide +kernel
theorem dL_refuses_333 : decode cL_refuses 333 = .ok (.ifCond .ne 18, 3) := by decide +kernel
theorem dL_refuses_336 : decode cL_refuses 336 = .ok (.aload_n 0, 1) := by decide +kernel
theorem dL_refuses_337 : decode cL_refuses 337 = .ok (.invokestatic 144, 3) := by decide +kernel
theorem dL_refuses_340 : decode cL_refuses 340 = .ok (.ldc2_w 24, 3) := by decide +kernel
theorem dL_refuses_343 : decode cL_refuses 343 = .ok (.lcmp, 1) := by decide +kernel
theorem dL_refuses_344 : decode cL_refuses 344 = .ok (.ifCond .ne 7, 3) := by decide +kernel
theorem dL_refuses_347 : decode cL_refuses 347 = .ok (.iconst 1, 1) := by decide +kernel
theorem dL_refuses_348 : decode cL_refuses 348 = .ok (.goto 4, 3) := by decide +kernel
theorem dL_refuses_351 : decode cL_refuses 351 = .ok (.iconst 0, 1) := by decide +kernel
theorem dL_refuses_352 : decode cL_refuses 352 = .ok (.istore_n 3, 1) := by decide +kernel
theorem dL_refuses_353 : decode cL_refuses 353 = .ok (.iload_n 3, 1) := by decide +kernel
theorem dL_refuses_354 : decode cL_refuses 354 = .ok (.ifCond .eq 150, 3) := by decide +kernel
theorem dL_refuses_357 : decode cL_refuses 357 = .ok (.aload_n 0, 1) := by decide +kernel
theorem dL_refuses_358 : decode cL_refuses 358 = .ok (.invokevirtual 83, 3) := by decide +kernel
theorem dL_refuses_361 : decode cL_refuses 361 = .ok (.ifCond .le 143, 3) := by decide +kernel
theorem dL_refuses_364 : decode cL_refuses 364 = .ok (.iload_n 1, 1) := by decide +kernel
theorem dL_refuses_365 : decode cL_refuses 365 = .ok (.aload_n 0, 1) := by decide +kernel
theorem dL_refuses_366 : decode cL_refuses 366 = .ok (.invokevirtual 83, 3) := by decide +kernel
theorem dL_refuses_369 : decode cL_refuses 369 = .ok (.irem, 1) := by decide +kernel
theorem dL_refuses_370 : decode cL_refuses 370 = .ok (.istore 4, 2) := by decide +kernel
theorem dL_refuses_372 : decode cL_refuses 372 = .ok (.aload_n 0, 1) := by decide +kernel
theorem dL_refuses_373 : decode cL_refuses 373 = .ok (.iload 4, 2) := by decide +kernel
theorem dL_refuses_375 : decode cL_refuses 375 = .ok (.ldc 147, 2) := by decide +kernel
theorem dL_refuses_377 : decode cL_refuses 377 = .ok (.invokestatic 110, 3) := by decide +kernel
theorem dL_refuses_380 : decode cL_refuses 380 = .ok (.ldc 15, 2) := by decide +kernel
theorem dL_refuses_382 : decode cL_refuses 382 = .ok (.if_icmp .ne 120, 3) := by decide +kernel
theorem dL_refuses_385 : decode cL_refuses 385 = .ok (.aload_n 0, 1) := by decide +kernel
theorem dL_refuses_386 : decode cL_refuses 386 = .ok (.iload 4, 2) := by decide +kernel
theorem dL_refuses_388 : decode cL_refuses 388 = .ok (.ldc 148, 2) := by decide +kernel
theorem dL_refuses_390 : decode cL_refuses 390 = .ok (.iconst 0, 1) := by decide +kernel
theorem dL_refuses_391 : decode cL_refuses 391 = .ok (.iconst 0, 1) := by decide +kernel
theorem dL_refuses_392 : decode cL_refuses 392 = .ok (.invokestatic 114, 3) := by decide +kernel
theorem dL_refuses_395 : decode cL_refuses 395 = .ok (.ldc2_w 20, 3) := by decide +kernel
theorem dL_refuses_398 : decode cL_refuses 398 = .ok (.lcmp, 1) := by decide +kernel
theorem dL_refuses_399 : decode cL_refuses 399 = .ok (.ifCond .ne 103, 3) := by decide +kernel
theorem dL_refuses_402 : decode cL_refuses 402 = .ok (.aload_n 0, 1) := by decide +kernel
theorem dL_refuses_403 : decode cL_refuses 403 = .ok (.iload 4, 2) := by decide +kernel
theorem dL_refuses_405 : decode cL_refuses 405 = .ok (.iconst 0, 1) := by decide +kernel
theorem dL_refuses_406 : decode cL_refuses 406 = .ok (.iconst (-1), 1) := by decide +kernel
theorem dL_refuses_407 : decode cL_refuses 407 = .ok (.iconst 0, 1) := by decide +kernel
theorem dL_refuses_408 : decode cL_refuses 408 = .ok (.invokestatic 114, 3) := by decide +kernel
theorem dL_refuses_411 : decode cL_refuses 411 = .ok (.ldc2_w 20, 3) := by decide +kernel
theorem dL_refuses_414 : decode cL_refuses 414 = .ok (.lcmp, 1) := by decide +kernel
theorem dL_refuses_415 : decode cL_refuses 415 = .ok (.ifCond .ne 87, 3) := by decide +kernel
theorem dL_refuses_418 : decode cL_refuses 418 = .ok (.aload_n 0, 1) := by decide +kernel
theorem dL_refuses_419 : decode cL_refuses 419 = .ok (.iload 4, 2) := by decide +kernel
theorem dL_refuses_421 : decode cL_refuses 421 = .ok (.iconst 0, 1) := by decide +kernel
theorem dL_refuses_422 : decode cL_refuses 422 = .ok (.iconst 0, 1) := by decide +kernel
theorem dL_refuses_423 : decode cL_refuses 423 = .ok (.ldc 148, 2) := by decide +kernel
theorem dL_refuses_425 : decode cL_refuses 425 = .ok (.iload_n 1, 1) := by decide +kernel
theorem dL_refuses_426 : decode cL_refuses 426 = .ok (.iadd, 1) := by decide +kernel
theorem dL_refuses_427 : decode cL_refuses 427 = .ok (.invokestatic 114, 3) := by decide +kernel
theorem dL_refuses_430 : decode cL_refuses 430 = .ok (.ldc2_w 20, 3) := by decide +kernel
theorem dL_refuses_433 : decode cL_refuses 433 = .ok (.lcmp, 1) := by decide +kernel
theorem dL_refuses_434 : decode cL_refuses 434 = .ok (.ifCond .ne 68, 3) := by decide +kernel
theorem dL_refuses_437 : decode cL_refuses 437 = .ok (.aload_n 0, 1) := by decide +kernel
theorem dL_refuses_438 : decode cL_refuses 438 = .ok (.iload 4, 2) := by decide +kernel
theorem dL_refuses_440 : decode cL_refuses 440 = .ok (.invokestatic 118, 3) := by decide +kernel
theorem dL_refuses_443 : decode cL_refuses 443 = .ok (.ifCond .gt 55, 3) := by decide +kernel
theorem dL_refuses_446 : decode cL_refuses 446 = .ok (.aload_n 0, 1) := by decide +kernel
theorem dL_refuses_447 : decode cL_refuses 447 = .ok (.iload 4, 2) := by decide +kernel
theorem dL_refuses_449 : decode cL_refuses 449 = .ok (.invokestatic 120, 3) := by decide +kernel
theorem dL_refuses_452 : decode cL_refuses 452 = .ok (.ldc2_w 24, 3) := by decide +kernel
theorem dL_refuses_455 : decode cL_refuses 455 = .ok (.lcmp, 1) := by decide +kernel
theorem dL_refuses_456 : decode cL_refuses 456 = .ok (.ifCond .ne 46, 3) := by decide +kernel
theorem dL_refuses_459 : decode cL_refuses 459 = .ok (.aload_n 0, 1) := by decide +kernel
theorem dL_refuses_460 : decode cL_refuses 460 = .ok (.iload 4, 2) := by decide +kernel
theorem dL_refuses_462 : decode cL_refuses 462 = .ok (.invokestatic 122, 3) := by decide +kernel
theorem dL_refuses_465 : decode cL_refuses 465 = .ok (.ldc2_w 24, 3) := by decide +kernel
theorem dL_refuses_468 : decode cL_refuses 468 = .ok (.lcmp, 1) := by decide +kernel
theorem dL_refuses_469 : decode cL_refuses 469 = .ok (.ifCond .ne 33, 3) := by decide +kernel
theorem dL_refuses_472 : decode cL_refuses 472 = .ok (.aload_n 0, 1) := by decide +kernel
theorem dL_refuses_473 : decode cL_refuses 473 = .ok (.iload 4, 2) := by decide +kernel
theorem dL_refuses_475 : decode cL_refuses 475 = .ok (.invokestatic 124, 3) := by decide +kernel
theorem dL_refuses_478 : decode cL_refuses 478 = .ok (.ldc2_w 24, 3) := by decide +kernel
theorem dL_refuses_481 : decode cL_refuses 481 = .ok (.lcmp, 1) := by decide +kernel
theorem dL_refuses_482 : decode cL_refuses 482 = .ok (.ifCond .ne 20, 3) := by decide +kernel
theorem dL_refuses_485 : decode cL_refuses 485 = .ok (.aload_n 0, 1) := by decide +kernel
theorem dL_refuses_486 : decode cL_refuses 486 = .ok (.iload 4, 2) := by decide +kernel
theorem dL_refuses_488 : decode cL_refuses 488 = .ok (.invokestatic 126, 3) := by decide +kernel
theorem dL_refuses_491 : decode cL_refuses 491 = .ok (.ldc2_w 24, 3) := by decide +kernel
theorem dL_refuses_494 : decode cL_refuses 494 = .ok (.lcmp, 1) := by decide +kernel
theorem dL_refuses_495 : decode cL_refuses 495 = .ok (.ifCond .ne 7, 3) := by decide +kernel
theorem dL_refuses_498 : decode cL_refuses 498 = .ok (.iconst 1, 1) := by decide +kernel
theorem dL_refuses_499 : decode cL_refuses 499 = .ok (.goto 4, 3) := by decide +kernel
theorem dL_refuses_502 : decode cL_refuses 502 = .ok (.iconst 0, 1) := by decide +kernel
theorem dL_refuses_503 : decode cL_refuses 503 = .ok (.istore_n 3, 1) := by decide +kernel
theorem dL_refuses_504 : decode cL_refuses 504 = .ok (.iload_n 3, 1) := by decide +kernel
theorem dL_refuses_505 : decode cL_refuses 505 = .ok (.ireturn, 1) := by decide +kernel
theorem dL_alike_0 : decode cL_alike 0 = .ok (.aload_n 0, 1) := by decide +kernel
theorem dL_alike_1 : decode cL_alike 1 = .ok (.invokevirtual 149, 3) := by decide +kernel
theorem dL_alike_4 : decode cL_alike 4 = .ok (.aload_n 1, 1) := by decide +kernel
theorem dL_alike_5 : decode cL_alike 5 = .ok (.invokevirtual 149, 3) := by decide +kernel
theorem dL_alike_8 : decode cL_alike 8 = .ok (.lcmp, 1) := by decide +kernel
theorem dL_alike_9 : decode cL_alike 9 = .ok (.ifCond .ne 143, 3) := by decide +kernel
theorem dL_alike_12 : decode cL_alike 12 = .ok (.aload_n 0, 1) := by decide +kernel
theorem dL_alike_13 : decode cL_alike 13 = .ok (.invokevirtual 152, 3) := by decide +kernel
theorem dL_alike_16 : decode cL_alike 16 = .ok (.aload_n 1, 1) := by decide +kernel
theorem dL_alike_17 : decode cL_alike 17 = .ok (.invokevirtual 152, 3) := by decide +kernel
theorem dL_alike_20 : decode cL_alike 20 = .ok (.lcmp, 1) := by decide +kernel
theorem dL_alike_21 : decode cL_alike 21 = .ok (.ifCond .ne 131, 3) := by decide +kernel
theorem dL_alike_24 : decode cL_alike 24 = .ok (.aload_n 0, 1) := by decide +kernel
theorem dL_alike_25 : decode cL_alike 25 = .ok (.invokevirtual 155, 3) := by decide +kernel
theorem dL_alike_28 : decode cL_alike 28 = .ok (.aload_n 1, 1) := by decide +kernel
theorem dL_alike_29 : decode cL_alike 29 = .ok (.invokevirtual 155, 3) := by decide +kernel
theorem dL_alike_32 : decode cL_alike 32 = .ok (.lcmp, 1) := by decide +kernel
theorem dL_alike_33 : decode cL_alike 33 = .ok (.ifCond .ne 119, 3) := by decide +kernel
theorem dL_alike_36 : decode cL_alike 36 = .ok (.aload_n 0, 1) := by decide +kernel
theorem dL_alike_37 : decode cL_alike 37 = .ok (.invokevirtual 158, 3) := by decide +kernel
theorem dL_alike_40 : decode cL_alike 40 = .ok (.aload_n 1, 1) := by decide +kernel
theorem dL_alike_41 : decode cL_alike 41 = .ok (.invokevirtual 158, 3) := by decide +kernel
theorem dL_alike_44 : decode cL_alike 44 = .ok (.lcmp, 1) := by decide +kernel
theorem dL_alike_45 : decode cL_alike 45 = .ok (.ifCond .ne 107, 3) := by decide +kernel
theorem dL_alike_48 : decode cL_alike 48 = .ok (.aload_n 0, 1) := by decide +kernel
theorem dL_alike_49 : decode cL_alike 49 = .ok (.invokevirtual 161, 3) := by decide +kernel
theorem dL_alike_52 : decode cL_alike 52 = .ok (.aload_n 1, 1) := by decide +kernel
theorem dL_alike_53 : decode cL_alike 53 = .ok (.invokevirtual 161, 3) := by decide +kernel
theorem dL_alike_56 : decode cL_alike 56 = .ok (.if_icmp .ne 96, 3) := by decide +kernel
theorem dL_alike_59 : decode cL_alike 59 = .ok (.aload_n 0, 1) := by decide +kernel
theorem dL_alike_60 : decode cL_alike 60 = .ok (.invokevirtual 83, 3) := by decide +kernel
theorem dL_alike_63 : decode cL_alike 63 = .ok (.aload_n 1, 1) := by decide +kernel
theorem dL_alike_64 : decode cL_alike 64 = .ok (.invokevirtual 83, 3) := by decide +kernel
theorem dL_alike_67 : decode cL_alike 67 = .ok (.if_icmp .ne 85, 3) := by decide +kernel
theorem dL_alike_70 : decode cL_alike 70 = .ok (.aload_n 0, 1) := by decide +kernel
theorem dL_alike_71 : decode cL_alike 71 = .ok (.invokevirtual 164, 3) := by decide +kernel
theorem dL_alike_74 : decode cL_alike 74 = .ok (.aload_n 1, 1) := by decide +kernel
theorem dL_alike_75 : decode cL_alike 75 = .ok (.invokevirtual 164, 3) := by decide +kernel
theorem dL_alike_78 : decode cL_alike 78 = .ok (.if_icmp .ne 74, 3) := by decide +kernel
theorem dL_alike_81 : decode cL_alike 81 = .ok (.aload_n 0, 1) := by decide +kernel
theorem dL_alike_82 : decode cL_alike 82 = .ok (.invokevirtual 167, 3) := by decide +kernel
theorem dL_alike_85 : decode cL_alike 85 = .ok (.aload_n 1, 1) := by decide +kernel
theorem dL_alike_86 : decode cL_alike 86 = .ok (.invokevirtual 167, 3) := by decide +kernel
theorem dL_alike_89 : decode cL_alike 89 = .ok (.if_icmp .ne 63, 3) := by decide +kernel
theorem dL_alike_92 : decode cL_alike 92 = .ok (.aload_n 0, 1) := by decide +kernel
theorem dL_alike_93 : decode cL_alike 93 = .ok (.invokestatic 144, 3) := by decide +kernel
theorem dL_alike_96 : decode cL_alike 96 = .ok (.aload_n 1, 1) := by decide +kernel
theorem dL_alike_97 : decode cL_alike 97 = .ok (.invokestatic 144, 3) := by decide +kernel
theorem dL_alike_100 : decode cL_alike 100 = .ok (.lcmp, 1) := by decide +kernel
theorem dL_alike_101 : decode cL_alike 101 = .ok (.ifCond .ne 51, 3) := by decide +kernel
theorem dL_alike_104 : decode cL_alike 104 = .ok (.aload_n 0, 1) := by decide +kernel
theorem dL_alike_105 : decode cL_alike 105 = .ok (.invokevirtual 170, 3) := by decide +kernel
theorem dL_alike_108 : decode cL_alike 108 = .ok (.aload_n 1, 1) := by decide +kernel
theorem dL_alike_109 : decode cL_alike 109 = .ok (.invokevirtual 170, 3) := by decide +kernel
theorem dL_alike_112 : decode cL_alike 112 = .ok (.if_icmp .ne 40, 3) := by decide +kernel
theorem dL_alike_115 : decode cL_alike 115 = .ok (.aload_n 0, 1) := by decide +kernel
theorem dL_alike_116 : decode cL_alike 116 = .ok (.invokevirtual 173, 3) := by decide +kernel
theorem dL_alike_119 : decode cL_alike 119 = .ok (.aload_n 1, 1) := by decide +kernel
theorem dL_alike_120 : decode cL_alike 120 = .ok (.invokevirtual 173, 3) := by decide +kernel
theorem dL_alike_123 : decode cL_alike 123 = .ok (.if_icmp .ne 29, 3) := by decide +kernel
theorem dL_alike_126 : decode cL_alike 126 = .ok (.aload_n 0, 1) := by decide +kernel
theorem dL_alike_127 : decode cL_alike 127 = .ok (.invokevirtual 176, 3) := by decide +kernel
theorem dL_alike_130 : decode cL_alike 130 = .ok (.aload_n 1, 1) := by decide +kernel
theorem dL_alike_131 : decode cL_alike 131 = .ok (.invokevirtual 176, 3) := by decide +kernel
theorem dL_alike_134 : decode cL_alike 134 = .ok (.if_icmp .ne 18, 3) := by decide +kernel
theorem dL_alike_137 : decode cL_alike 137 = .ok (.aload_n 0, 1) := by decide +kernel
theorem dL_alike_138 : decode cL_alike 138 = .ok (.invokevirtual 179, 3) := by decide +kernel
theorem dL_alike_141 : decode cL_alike 141 = .ok (.aload_n 1, 1) := by decide +kernel
theorem dL_alike_142 : decode cL_alike 142 = .ok (.invokevirtual 179, 3) := by decide +kernel
theorem dL_alike_145 : decode cL_alike 145 = .ok (.if_icmp .ne 7, 3) := by decide +kernel
theorem dL_alike_148 : decode cL_alike 148 = .ok (.iconst 1, 1) := by decide +kernel
theorem dL_alike_149 : decode cL_alike 149 = .ok (.goto 4, 3) := by decide +kernel
theorem dL_alike_152 : decode cL_alike 152 = .ok (.iconst 0, 1) := by decide +kernel
theorem dL_alike_153 : decode cL_alike 153 = .ok (.istore_n 2, 1) := by decide +kernel
theorem dL_alike_154 : decode cL_alike 154 = .ok (.iconst 0, 1) := by decide +kernel
theorem dL_alike_155 : decode cL_alike 155 = .ok (.istore_n 3, 1) := by decide +kernel
theorem dL_alike_156 : decode cL_alike 156 = .ok (.iload_n 3, 1) := by decide +kernel
theorem dL_alike_157 : decode cL_alike 157 = .ok (.aload_n 0, 1) := by decide +kernel
theorem dL_alike_158 : decode cL_alike 158 = .ok (.invokevirtual 83, 3) := by decide +kernel
theorem dL_alike_161 : decode cL_alike 161 = .ok (.if_icmp .ge 60, 3) := by decide +kernel
theorem dL_alike_164 : decode cL_alike 164 = .ok (.iload_n 2, 1) := by decide +kernel
theorem dL_alike_165 : decode cL_alike 165 = .ok (.ifCond .eq 56, 3) := by decide +kernel
theorem dL_alike_168 : decode cL_alike 168 = .ok (.aload_n 0, 1) := by decide +kernel
theorem dL_alike_169 : decode cL_alike 169 = .ok (.iload_n 3, 1) := by decide +kernel
theorem dL_alike_170 : decode cL_alike 170 = .ok (.invokestatic 118, 3) := by decide +kernel
theorem dL_alike_173 : decode cL_alike 173 = .ok (.aload_n 1, 1) := by decide +kernel
theorem dL_alike_174 : decode cL_alike 174 = .ok (.iload_n 3, 1) := by decide +kernel
theorem dL_alike_175 : decode cL_alike 175 = .ok (.invokestatic 118, 3) := by decide +kernel
theorem dL_alike_178 : decode cL_alike 178 = .ok (.if_icmp .ne 35, 3) := by decide +kernel
theorem dL_alike_181 : decode cL_alike 181 = .ok (.aload_n 0, 1) := by decide +kernel
theorem dL_alike_182 : decode cL_alike 182 = .ok (.iload_n 3, 1) := by decide +kernel
theorem dL_alike_183 : decode cL_alike 183 = .ok (.invokestatic 120, 3) := by decide +kernel
theorem dL_alike_186 : decode cL_alike 186 = .ok (.aload_n 1, 1) := by decide +kernel
theorem dL_alike_187 : decode cL_alike 187 = .ok (.iload_n 3, 1) := by decide +kernel
theorem dL_alike_188 : decode cL_alike 188 = .ok (.invokestatic 120, 3) := by decide +kernel
theorem dL_alike_191 : decode cL_alike 191 = .ok (.lcmp, 1) := by decide +kernel
theorem dL_alike_192 : decode cL_alike 192 = .ok (.ifCond .ne 21, 3) := by decide +kernel
theorem dL_alike_195 : decode cL_alike 195 = .ok (.aload_n 0, 1) := by decide +kernel
theorem dL_alike_196 : decode cL_alike 196 = .ok (.iload_n 3, 1) := by decide +kernel
theorem dL_alike_197 : decode cL_alike 197 = .ok (.invokestatic 126, 3) := by decide +kernel
theorem dL_alike_200 : decode cL_alike 200 = .ok (.aload_n 1, 1) := by decide +kernel
theorem dL_alike_201 : decode cL_alike 201 = .ok (.iload_n 3, 1) := by decide +kernel
theorem dL_alike_202 : decode cL_alike 202 = .ok (.invokestatic 126, 3) := by decide +kernel
theorem dL_alike_205 : decode cL_alike 205 = .ok (.lcmp, 1) := by decide +kernel
theorem dL_alike_206 : decode cL_alike 206 = .ok (.ifCond .ne 7, 3) := by decide +kernel
theorem dL_alike_209 : decode cL_alike 209 = .ok (.iconst 1, 1) := by decide +kernel
theorem dL_alike_210 : decode cL_alike 210 = .ok (.goto 4, 3) := by decide +kernel
theorem dL_alike_213 : decode cL_alike 213 = .ok (.iconst 0, 1) := by decide +kernel
theorem dL_alike_214 : decode cL_alike 214 = .ok (.istore_n 2, 1) := by decide +kernel
theorem dL_alike_215 : decode cL_alike 215 = .ok (.iinc 3 1, 3) := by decide +kernel
theorem dL_alike_218 : decode cL_alike 218 = .ok (.goto (-62), 3) := by decide +kernel
theorem dL_alike_221 : decode cL_alike 221 = .ok (.iload_n 2, 1) := by decide +kernel
theorem dL_alike_222 : decode cL_alike 222 = .ok (.ireturn, 1) := by decide +kernel
theorem dL_holds_0 : decode cL_holds 0 = .ok (.iconst 0, 1) := by decide +kernel
theorem dL_holds_1 : decode cL_holds 1 = .ok (.istore_n 1, 1) := by decide +kernel
theorem dL_holds_2 : decode cL_holds 2 = .ok (.aload_n 0, 1) := by decide +kernel
theorem dL_holds_3 : decode cL_holds 3 = .ok (.invokevirtual 164, 3) := by decide +kernel
theorem dL_holds_6 : decode cL_holds 6 = .ok (.istore_n 2, 1) := by decide +kernel
theorem dL_holds_7 : decode cL_holds 7 = .ok (.aload_n 0, 1) := by decide +kernel
theorem dL_holds_8 : decode cL_holds 8 = .ok (.invokevirtual 167, 3) := by decide +kernel
theorem dL_holds_11 : decode cL_holds 11 = .ok (.istore_n 3, 1) := by decide +kernel
theorem dL_holds_12 : decode cL_holds 12 = .ok (.iconst 0, 1) := by decide +kernel
theorem dL_holds_13 : decode cL_holds 13 = .ok (.istore 4, 2) := by decide +kernel
theorem dL_holds_15 : decode cL_holds 15 = .ok (.iconst 0, 1) := by decide +kernel
theorem dL_holds_16 : decode cL_holds 16 = .ok (.istore 5, 2) := by decide +kernel
theorem dL_holds_18 : decode cL_holds 18 = .ok (.iload_n 3, 1) := by decide +kernel
theorem dL_holds_19 : decode cL_holds 19 = .ok (.iload_n 2, 1) := by decide +kernel
theorem dL_holds_20 : decode cL_holds 20 = .ok (.iconst (-1), 1) := by decide +kernel
theorem dL_holds_21 : decode cL_holds 21 = .ok (.ixor, 1) := by decide +kernel
theorem dL_holds_22 : decode cL_holds 22 = .ok (.iand, 1) := by decide +kernel
theorem dL_holds_23 : decode cL_holds 23 = .ok (.ifCond .ne 16, 3) := by decide +kernel
theorem dL_holds_26 : decode cL_holds 26 = .ok (.iload_n 2, 1) := by decide +kernel
theorem dL_holds_27 : decode cL_holds 27 = .ok (.aload_n 0, 1) := by decide +kernel
theorem dL_holds_28 : decode cL_holds 28 = .ok (.invokevirtual 83, 3) := by decide +kernel
theorem dL_holds_31 : decode cL_holds 31 = .ok (.ishr, 1) := by decide +kernel
theorem dL_holds_32 : decode cL_holds 32 = .ok (.ifCond .ne 7, 3) := by decide +kernel
theorem dL_holds_35 : decode cL_holds 35 = .ok (.iconst 1, 1) := by decide +kernel
theorem dL_holds_36 : decode cL_holds 36 = .ok (.goto 4, 3) := by decide +kernel
theorem dL_holds_39 : decode cL_holds 39 = .ok (.iconst 0, 1) := by decide +kernel
theorem dL_holds_40 : decode cL_holds 40 = .ok (.istore 6, 2) := by decide +kernel
theorem dL_holds_42 : decode cL_holds 42 = .ok (.iconst 0, 1) := by decide +kernel
theorem dL_holds_43 : decode cL_holds 43 = .ok (.istore 7, 2) := by decide +kernel
theorem dL_holds_45 : decode cL_holds 45 = .ok (.iload 7, 2) := by decide +kernel
theorem dL_holds_47 : decode cL_holds 47 = .ok (.aload_n 0, 1) := by decide +kernel
theorem dL_holds_48 : decode cL_holds 48 = .ok (.invokevirtual 83, 3) := by decide +kernel
theorem dL_holds_51 : decode cL_holds 51 = .ok (.if_icmp .ge 236, 3) := by decide +kernel
theorem dL_holds_54 : decode cL_holds 54 = .ok (.iload 6, 2) := by decide +kernel
theorem dL_holds_56 : decode cL_holds 56 = .ok (.ifCond .eq 231, 3) := by decide +kernel
theorem dL_holds_59 : decode cL_holds 59 = .ok (.aload_n 0, 1) := by decide +kernel
theorem dL_holds_60 : decode cL_holds 60 = .ok (.iload 7, 2) := by decide +kernel
theorem dL_holds_62 : decode cL_holds 62 = .ok (.invokestatic 118, 3) := by decide +kernel
theorem dL_holds_65 : decode cL_holds 65 = .ok (.ifCond .le 7, 3) := by decide +kernel
theorem dL_holds_68 : decode cL_holds 68 = .ok (.iconst 1, 1) := by decide +kernel
theorem dL_holds_69 : decode cL_holds 69 = .ok (.goto 4, 3) := by decide +kernel
theorem dL_holds_72 : decode cL_holds 72 = .ok (.iconst 0, 1) := by decide +kernel
theorem dL_holds_73 : decode cL_holds 73 = .ok (.istore 8, 2) := by decide +kernel
theorem dL_holds_75 : decode cL_holds 75 = .ok (.iload_n 2, 1) := by decide +kernel
theorem dL_holds_76 : decode cL_holds 76 = .ok (.iload 7, 2) := by decide +kernel
theorem dL_holds_78 : decode cL_holds 78 = .ok (.ishr, 1) := by decide +kernel
theorem dL_holds_79 : decode cL_holds 79 = .ok (.iconst 1, 1) := by decide +kernel
theorem dL_holds_80 : decode cL_holds 80 = .ok (.iand, 1) := by decide +kernel
theorem dL_holds_81 : decode cL_holds 81 = .ok (.iconst 1, 1) := by decide +kernel
theorem dL_holds_82 : decode cL_holds 82 = .ok (.if_icmp .ne 7, 3) := by decide +kernel
theorem dL_holds_85 : decode cL_holds 85 = .ok (.iconst 1, 1) := by decide +kernel
theorem dL_holds_86 : decode cL_holds 86 = .ok (.goto 4, 3) := by decide +kernel
theorem dL_holds_89 : decode cL_holds 89 = .ok (.iconst 0, 1) := by decide +kernel
theorem dL_holds_90 : decode cL_holds 90 = .ok (.istore 9, 2) := by decide +kernel
theorem dL_holds_92 : decode cL_holds 92 = .ok (.iload_n 1, 1) := by decide +kernel
theorem dL_holds_93 : decode cL_holds 93 = .ok (.iload 8, 2) := by decide +kernel
theorem dL_holds_95 : decode cL_holds 95 = .ok (.ifCond .eq 7, 3) := by decide +kernel
theorem dL_holds_98 : decode cL_holds 98 = .ok (.iconst 1, 1) := by decide +kernel
theorem dL_holds_99 : decode cL_holds 99 = .ok (.goto 4, 3) := by decide +kernel
theorem dL_holds_102 : decode cL_holds 102 = .ok (.iconst 0, 1) := by decide +kernel
theorem dL_holds_103 : decode cL_holds 103 = .ok (.iadd, 1) := by decide +kernel
theorem dL_holds_104 : decode cL_holds 104 = .ok (.istore_n 1, 1) := by decide +kernel
theorem dL_holds_105 : decode cL_holds 105 = .ok (.iload 4, 2) := by decide +kernel
theorem dL_holds_107 : decode cL_holds 107 = .ok (.iload 9, 2) := by decide +kernel
theorem dL_holds_109 : decode cL_holds 109 = .ok (.ifCond .eq 7, 3) := by decide +kernel
theorem dL_holds_112 : decode cL_holds 112 = .ok (.iconst 1, 1) := by decide +kernel
theorem dL_holds_113 : decode cL_holds 113 = .ok (.goto 4, 3) := by decide +kernel
theorem dL_holds_116 : decode cL_holds 116 = .ok (.iconst 0, 1) := by decide +kernel
theorem dL_holds_117 : decode cL_holds 117 = .ok (.iadd, 1) := by decide +kernel
theorem dL_holds_118 : decode cL_holds 118 = .ok (.istore 4, 2) := by decide +kernel
theorem dL_holds_120 : decode cL_holds 120 = .ok (.iload 5, 2) := by decide +kernel
theorem dL_holds_122 : decode cL_holds 122 = .ok (.iload_n 3, 1) := by decide +kernel
theorem dL_holds_123 : decode cL_holds 123 = .ok (.iload 7, 2) := by decide +kernel
theorem dL_holds_125 : decode cL_holds 125 = .ok (.ishr, 1) := by decide +kernel
theorem dL_holds_126 : decode cL_holds 126 = .ok (.iconst 1, 1) := by decide +kernel
theorem dL_holds_127 : decode cL_holds 127 = .ok (.iand, 1) := by decide +kernel
theorem dL_holds_128 : decode cL_holds 128 = .ok (.iadd, 1) := by decide +kernel
theorem dL_holds_129 : decode cL_holds 129 = .ok (.istore 5, 2) := by decide +kernel
theorem dL_holds_131 : decode cL_holds 131 = .ok (.iload 8, 2) := by decide +kernel
theorem dL_holds_133 : decode cL_holds 133 = .ok (.ifCond .eq 136, 3) := by decide +kernel
theorem dL_holds_136 : decode cL_holds 136 = .ok (.aload_n 0, 1) := by decide +kernel
theorem dL_holds_137 : decode cL_holds 137 = .ok (.iload 7, 2) := by decide +kernel
theorem dL_holds_139 : decode cL_holds 139 = .ok (.invokestatic 120, 3) := by decide +kernel
theorem dL_holds_142 : decode cL_holds 142 = .ok (.aload_n 0, 1) := by decide +kernel
theorem dL_holds_143 : decode cL_holds 143 = .ok (.iload 7, 2) := by decide +kernel
theorem dL_holds_145 : decode cL_holds 145 = .ok (.invokestatic 126, 3) := by decide +kernel
theorem dL_holds_148 : decode cL_holds 148 = .ok (.lsub, 1) := by decide +kernel
theorem dL_holds_149 : decode cL_holds 149 = .ok (.lstore 10, 2) := by decide +kernel
theorem dL_holds_151 : decode cL_holds 151 = .ok (.aload_n 0, 1) := by decide +kernel
theorem dL_holds_152 : decode cL_holds 152 = .ok (.iload 7, 2) := by decide +kernel
theorem dL_holds_154 : decode cL_holds 154 = .ok (.invokestatic 120, 3) := by decide +kernel
theorem dL_holds_157 : decode cL_holds 157 = .ok (.aload_n 0, 1) := by decide +kernel
theorem dL_holds_158 : decode cL_holds 158 = .ok (.iload 7, 2) := by decide +kernel
theorem dL_holds_160 : decode cL_holds 160 = .ok (.invokestatic 126, 3) := by decide +kernel
theorem dL_holds_163 : decode cL_holds 163 = .ok (.ladd, 1) := by decide +kernel
theorem dL_holds_164 : decode cL_holds 164 = .ok (.lstore 12, 2) := by decide +kernel
theorem dL_holds_166 : decode cL_holds 166 = .ok (.iload 9, 2) := by decide +kernel
theorem dL_holds_168 : decode cL_holds 168 = .ok (.lload 10, 2) := by decide +kernel
theorem dL_holds_170 : decode cL_holds 170 = .ok (.aload_n 0, 1) := by decide +kernel
theorem dL_holds_171 : decode cL_holds 171 = .ok (.invokestatic 139, 3) := by decide +kernel
theorem dL_holds_174 : decode cL_holds 174 = .ok (.lcmp, 1) := by decide +kernel
theorem dL_holds_175 : decode cL_holds 175 = .ok (.ifCond .gt 17, 3) := by decide +kernel
theorem dL_holds_178 : decode cL_holds 178 = .ok (.aload_n 0, 1) := by decide +kernel
theorem dL_holds_179 : decode cL_holds 179 = .ok (.invokestatic 139, 3) := by decide +kernel
theorem dL_holds_182 : decode cL_holds 182 = .ok (.lload 12, 2) := by decide +kernel
theorem dL_holds_184 : decode cL_holds 184 = .ok (.lcmp, 1) := by decide +kernel
theorem dL_holds_185 : decode cL_holds 185 = .ok (.ifCond .gt 7, 3) := by decide +kernel
theorem dL_holds_188 : decode cL_holds 188 = .ok (.iconst 1, 1) := by decide +kernel
theorem dL_holds_189 : decode cL_holds 189 = .ok (.goto 4, 3) := by decide +kernel
theorem dL_holds_192 : decode cL_holds 192 = .ok (.iconst 0, 1) := by decide +kernel
theorem dL_holds_193 : decode cL_holds 193 = .ok (.if_icmp .ne 70, 3) := by decide +kernel
theorem dL_holds_196 : decode cL_holds 196 = .ok (.iload 9, 2) := by decide +kernel
theorem dL_holds_198 : decode cL_holds 198 = .ok (.ifCond .eq 23, 3) := by decide +kernel
theorem dL_holds_201 : decode cL_holds 201 = .ok (.lload 10, 2) := by decide +kernel
theorem dL_holds_203 : decode cL_holds 203 = .ok (.aload_n 0, 1) := by decide +kernel
theorem dL_holds_204 : decode cL_holds 204 = .ok (.invokestatic 142, 3) := by decide +kernel
theorem dL_holds_207 : decode cL_holds 207 = .ok (.lcmp, 1) := by decide +kernel
theorem dL_holds_208 : decode cL_holds 208 = .ok (.ifCond .gt 55, 3) := by decide +kernel
theorem dL_holds_211 : decode cL_holds 211 = .ok (.aload_n 0, 1) := by decide +kernel
theorem dL_holds_212 : decode cL_holds 212 = .ok (.invokestatic 142, 3) := by decide +kernel
theorem dL_holds_215 : decode cL_holds 215 = .ok (.lload 12, 2) := by decide +kernel
theorem dL_holds_217 : decode cL_holds 217 = .ok (.lcmp, 1) := by decide +kernel
theorem dL_holds_218 : decode cL_holds 218 = .ok (.ifCond .gt 45, 3) := by decide +kernel
theorem dL_holds_221 : decode cL_holds 221 = .ok (.aload_n 0, 1) := by decide +kernel
theorem dL_holds_222 : decode cL_holds 222 = .ok (.iload 7, 2) := by decide +kernel
theorem dL_holds_224 : decode cL_holds 224 = .ok (.invokestatic 122, 3) := by decide +kernel
theorem dL_holds_227 : decode cL_holds 227 = .ok (.lconst 0, 1) := by decide +kernel
theorem dL_holds_228 : decode cL_holds 228 = .ok (.lcmp, 1) := by decide +kernel
theorem dL_holds_229 : decode cL_holds 229 = .ok (.ifCond .lt 34, 3) := by decide +kernel
theorem dL_holds_232 : decode cL_holds 232 = .ok (.aload_n 0, 1) := by decide +kernel
theorem dL_holds_233 : decode cL_holds 233 = .ok (.iload 7, 2) := by decide +kernel
theorem dL_holds_235 : decode cL_holds 235 = .ok (.invokestatic 124, 3) := by decide +kernel
theorem dL_holds_238 : decode cL_holds 238 = .ok (.lconst 0, 1) := by decide +kernel
theorem dL_holds_239 : decode cL_holds 239 = .ok (.lcmp, 1) := by decide +kernel
theorem dL_holds_240 : decode cL_holds 240 = .ok (.ifCond .lt 23, 3) := by decide +kernel
theorem dL_holds_243 : decode cL_holds 243 = .ok (.aload_n 0, 1) := by decide +kernel
theorem dL_holds_244 : decode cL_holds 244 = .ok (.iload 7, 2) := by decide +kernel
theorem dL_holds_246 : decode cL_holds 246 = .ok (.invokestatic 126, 3) := by decide +kernel
theorem dL_holds_249 : decode cL_holds 249 = .ok (.aload_n 0, 1) := by decide +kernel
theorem dL_holds_250 : decode cL_holds 250 = .ok (.iload 7, 2) := by decide +kernel
theorem dL_holds_252 : decode cL_holds 252 = .ok (.invokestatic 124, 3) := by decide +kernel
theorem dL_holds_255 : decode cL_holds 255 = .ok (.lcmp, 1) := by decide +kernel
theorem dL_holds_256 : decode cL_holds 256 = .ok (.ifCond .lt 7, 3) := by decide +kernel
theorem dL_holds_259 : decode cL_holds 259 = .ok (.iconst 1, 1) := by decide +kernel
theorem dL_holds_260 : decode cL_holds 260 = .ok (.goto 4, 3) := by decide +kernel
theorem dL_holds_263 : decode cL_holds 263 = .ok (.iconst 0, 1) := by decide +kernel
theorem dL_holds_264 : decode cL_holds 264 = .ok (.istore 6, 2) := by decide +kernel
theorem dL_holds_266 : decode cL_holds 266 = .ok (.goto 15, 3) := by decide +kernel
theorem dL_holds_269 : decode cL_holds 269 = .ok (.iload 9, 2) := by decide +kernel
theorem dL_holds_271 : decode cL_holds 271 = .ok (.ifCond .ne 7, 3) := by decide +kernel
theorem dL_holds_274 : decode cL_holds 274 = .ok (.iconst 1, 1) := by decide +kernel
theorem dL_holds_275 : decode cL_holds 275 = .ok (.goto 4, 3) := by decide +kernel
theorem dL_holds_278 : decode cL_holds 278 = .ok (.iconst 0, 1) := by decide +kernel
theorem dL_holds_279 : decode cL_holds 279 = .ok (.istore 6, 2) := by decide +kernel
theorem dL_holds_281 : decode cL_holds 281 = .ok (.iinc 7 1, 3) := by decide +kernel
theorem dL_holds_284 : decode cL_holds 284 = .ok (.goto (-239), 3) := by decide +kernel
theorem dL_holds_287 : decode cL_holds 287 = .ok (.iload 6, 2) := by decide +kernel
theorem dL_holds_289 : decode cL_holds 289 = .ok (.ifCond .eq 7, 3) := by decide +kernel
theorem dL_holds_292 : decode cL_holds 292 = .ok (.iload_n 1, 1) := by decide +kernel
theorem dL_holds_293 : decode cL_holds 293 = .ok (.ifCond .ne 37, 3) := by decide +kernel
theorem dL_holds_296 : decode cL_holds 296 = .ok (.iload 6, 2) := by decide +kernel
theorem dL_holds_298 : decode cL_holds 298 = .ok (.ifCond .eq 30, 3) := by decide +kernel
theorem dL_holds_301 : decode cL_holds 301 = .ok (.iload_n 2, 1) := by decide +kernel
theorem dL_holds_302 : decode cL_holds 302 = .ok (.ifCond .ne 26, 3) := by decide +kernel
theorem dL_holds_305 : decode cL_holds 305 = .ok (.iload_n 3, 1) := by decide +kernel
theorem dL_holds_306 : decode cL_holds 306 = .ok (.ifCond .ne 22, 3) := by decide +kernel
theorem dL_holds_309 : decode cL_holds 309 = .ok (.aload_n 0, 1) := by decide +kernel
theorem dL_holds_310 : decode cL_holds 310 = .ok (.invokevirtual 136, 3) := by decide +kernel
theorem dL_holds_313 : decode cL_holds 313 = .ok (.ifCond .ne 15, 3) := by decide +kernel
theorem dL_holds_316 : decode cL_holds 316 = .ok (.aload_n 0, 1) := by decide +kernel
theorem dL_holds_317 : decode cL_holds 317 = .ok (.invokevirtual 170, 3) := by decide +kernel
theorem dL_holds_320 : decode cL_holds 320 = .ok (.iconst (-1), 1) := by decide +kernel
theorem dL_holds_321 : decode cL_holds 321 = .ok (.if_icmp .ne 7, 3) := by decide +kernel
theorem dL_holds_324 : decode cL_holds 324 = .ok (.iconst 1, 1) := by decide +kernel
theorem dL_holds_325 : decode cL_holds 325 = .ok (.goto 4, 3) := by decide +kernel
theorem dL_holds_328 : decode cL_holds 328 = .ok (.iconst 0, 1) := by decide +kernel
theorem dL_holds_329 : decode cL_holds 329 = .ok (.ireturn, 1) := by decide +kernel
theorem dL_holds_330 : decode cL_holds 330 = .ok (.aload_n 0, 1) := by decide +kernel
theorem dL_holds_331 : decode cL_holds 331 = .ok (.invokestatic 144, 3) := by decide +kernel
theorem dL_holds_334 : decode cL_holds 334 = .ok (.lstore 7, 2) := by decide +kernel
theorem dL_holds_336 : decode cL_holds 336 = .ok (.ldc2_w 182, 3) := by decide +kernel
theorem dL_holds_339 : decode cL_holds 339 = .ok (.lstore 9, 2) := by decide +kernel
theorem dL_holds_341 : decode cL_holds 341 = .ok (.ldc2_w 184, 3) := by decide +kernel
theorem dL_holds_344 : decode cL_holds 344 = .ok (.lstore 11, 2) := by decide +kernel
theorem dL_holds_346 : decode cL_holds 346 = .ok (.iconst 0, 1) := by decide +kernel
theorem dL_holds_347 : decode cL_holds 347 = .ok (.istore 13, 2) := by decide +kernel
theorem dL_holds_349 : decode cL_holds 349 = .ok (.iload 13, 2) := by decide +kernel
theorem dL_holds_351 : decode cL_holds 351 = .ok (.aload_n 0, 1) := by decide +kernel
theorem dL_holds_352 : decode cL_holds 352 = .ok (.invokevirtual 83, 3) := by decide +kernel
theorem dL_holds_355 : decode cL_holds 355 = .ok (.if_icmp .ge 69, 3) := by decide +kernel
theorem dL_holds_358 : decode cL_holds 358 = .ok (.iload_n 3, 1) := by decide +kernel
theorem dL_holds_359 : decode cL_holds 359 = .ok (.iload 13, 2) := by decide +kernel
theorem dL_holds_361 : decode cL_holds 361 = .ok (.ishr, 1) := by decide +kernel
theorem dL_holds_362 : decode cL_holds 362 = .ok (.iconst 1, 1) := by decide +kernel
theorem dL_holds_363 : decode cL_holds 363 = .ok (.iand, 1) := by decide +kernel
theorem dL_holds_364 : decode cL_holds 364 = .ok (.iconst 1, 1) := by decide +kernel
theorem dL_holds_365 : decode cL_holds 365 = .ok (.if_icmp .ne 53, 3) := by decide +kernel
theorem dL_holds_368 : decode cL_holds 368 = .ok (.aload_n 0, 1) := by decide +kernel
theorem dL_holds_369 : decode cL_holds 369 = .ok (.iload 13, 2) := by decide +kernel
theorem dL_holds_371 : decode cL_holds 371 = .ok (.invokestatic 120, 3) := by decide +kernel
theorem dL_holds_374 : decode cL_holds 374 = .ok (.lload 9, 2) := by decide +kernel
theorem dL_holds_376 : decode cL_holds 376 = .ok (.lcmp, 1) := by decide +kernel
theorem dL_holds_377 : decode cL_holds 377 = .ok (.ifCond .ge 12, 3) := by decide +kernel
theorem dL_holds_380 : decode cL_holds 380 = .ok (.aload_n 0, 1) := by decide +kernel
theorem dL_holds_381 : decode cL_holds 381 = .ok (.iload 13, 2) := by decide +kernel
theorem dL_holds_383 : decode cL_holds 383 = .ok (.invokestatic 120, 3) := by decide +kernel
theorem dL_holds_386 : decode cL_holds 386 = .ok (.goto 5, 3) := by decide +kernel
theorem dL_holds_389 : decode cL_holds 389 = .ok (.lload 9, 2) := by decide +kernel
theorem dL_holds_391 : decode cL_holds 391 = .ok (.lstore 9, 2) := by decide +kernel
theorem dL_holds_393 : decode cL_holds 393 = .ok (.aload_n 0, 1) := by decide +kernel
theorem dL_holds_394 : decode cL_holds 394 = .ok (.iload 13, 2) := by decide +kernel
theorem dL_holds_396 : decode cL_holds 396 = .ok (.invokestatic 120, 3) := by decide +kernel
theorem dL_holds_399 : decode cL_holds 399 = .ok (.lload 11, 2) := by decide +kernel
theorem dL_holds_401 : decode cL_holds 401 = .ok (.lcmp, 1) := by decide +kernel
theorem dL_holds_402 : decode cL_holds 402 = .ok (.ifCond .le 12, 3) := by decide +kernel
theorem dL_holds_405 : decode cL_holds 405 = .ok (.aload_n 0, 1) := by decide +kernel
theorem dL_holds_406 : decode cL_holds 406 = .ok (.iload 13, 2) := by decide +kernel
theorem dL_holds_408 : decode cL_holds 408 = .ok (.invokestatic 120, 3) := by decide +kernel
theorem dL_holds_411 : decode cL_holds 411 = .ok (.goto 5, 3) := by decide +kernel
theorem dL_holds_414 : decode cL_holds 414 = .ok (.lload 11, 2) := by decide +kernel
theorem dL_holds_416 : decode cL_holds 416 = .ok (.lstore 11, 2) := by decide +kernel
theorem dL_holds_418 : decode cL_holds 418 = .ok (.iinc 13 1, 3) := by decide +kernel
theorem dL_holds_421 : decode cL_holds 421 = .ok (.goto (-72), 3) := by decide +kernel
theorem dL_holds_424 : decode cL_holds 424 = .ok (.aload_n 0, 1) := by decide +kernel
theorem dL_holds_425 : decode cL_holds 425 = .ok (.invokevirtual 136, 3) := by decide +kernel
theorem dL_holds_428 : decode cL_holds 428 = .ok (.iload 4, 2) := by decide +kernel
theorem dL_holds_430 : decode cL_holds 430 = .ok (.if_icmp .ne 101, 3) := by decide +kernel
theorem dL_holds_433 : decode cL_holds 433 = .ok (.aload_n 0, 1) := by decide +kernel
theorem dL_holds_434 : decode cL_holds 434 = .ok (.invokevirtual 128, 3) := by decide +kernel
theorem dL_holds_437 : decode cL_holds 437 = .ok (.iconst 2, 1) := by decide +kernel
theorem dL_holds_438 : decode cL_holds 438 = .ok (.iload 4, 2) := by decide +kernel
theorem dL_holds_440 : decode cL_holds 440 = .ok (.imul, 1) := by decide +kernel
theorem dL_holds_441 : decode cL_holds 441 = .ok (.iload_n 1, 1) := by decide +kernel
theorem dL_holds_442 : decode cL_holds 442 = .ok (.if_icmp .le 7, 3) := by decide +kernel
theorem dL_holds_445 : decode cL_holds 445 = .ok (.iconst 1, 1) := by decide +kernel
theorem dL_holds_446 : decode cL_holds 446 = .ok (.goto 4, 3) := by decide +kernel
theorem dL_holds_449 : decode cL_holds 449 = .ok (.iconst 0, 1) := by decide +kernel
theorem dL_holds_450 : decode cL_holds 450 = .ok (.if_icmp .ne 81, 3) := by decide +kernel
theorem dL_holds_453 : decode cL_holds 453 = .ok (.iload 4, 2) := by decide +kernel
theorem dL_holds_455 : decode cL_holds 455 = .ok (.iconst 1, 1) := by decide +kernel
theorem dL_holds_456 : decode cL_holds 456 = .ok (.if_icmp .lt 75, 3) := by decide +kernel
theorem dL_holds_459 : decode cL_holds 459 = .ok (.iload 5, 2) := by decide +kernel
theorem dL_holds_461 : decode cL_holds 461 = .ok (.iconst 1, 1) := by decide +kernel
theorem dL_holds_462 : decode cL_holds 462 = .ok (.if_icmp .lt 69, 3) := by decide +kernel
theorem dL_holds_465 : decode cL_holds 465 = .ok (.iload 4, 2) := by decide +kernel
theorem dL_holds_467 : decode cL_holds 467 = .ok (.iconst 3, 1) := by decide +kernel
theorem dL_holds_468 : decode cL_holds 468 = .ok (.if_icmp .le 12, 3) := by decide +kernel
theorem dL_holds_471 : decode cL_holds 471 = .ok (.iload 5, 2) := by decide +kernel
theorem dL_holds_473 : decode cL_holds 473 = .ok (.iconst 3, 1) := by decide +kernel
theorem dL_holds_474 : decode cL_holds 474 = .ok (.if_icmp .lt 57, 3) := by decide +kernel
theorem dL_holds_477 : decode cL_holds 477 = .ok (.goto 10, 3) := by decide +kernel
theorem dL_holds_480 : decode cL_holds 480 = .ok (.iload 5, 2) := by decide +kernel
theorem dL_holds_482 : decode cL_holds 482 = .ok (.iload 4, 2) := by decide +kernel
theorem dL_holds_484 : decode cL_holds 484 = .ok (.if_icmp .ne 47, 3) := by decide +kernel
theorem dL_holds_487 : decode cL_holds 487 = .ok (.aload_n 0, 1) := by decide +kernel
theorem dL_holds_488 : decode cL_holds 488 = .ok (.invokestatic 139, 3) := by decide +kernel
theorem dL_holds_491 : decode cL_holds 491 = .ok (.aload_n 0, 1) := by decide +kernel
theorem dL_holds_492 : decode cL_holds 492 = .ok (.invokestatic 142, 3) := by decide +kernel
theorem dL_holds_495 : decode cL_holds 495 = .ok (.lcmp, 1) := by decide +kernel
theorem dL_holds_496 : decode cL_holds 496 = .ok (.ifCond .gt 35, 3) := by decide +kernel
theorem dL_holds_499 : decode cL_holds 499 = .ok (.lload 9, 2) := by decide +kernel
theorem dL_holds_501 : decode cL_holds 501 = .ok (.lload 7, 2) := by decide +kernel
theorem dL_holds_503 : decode cL_holds 503 = .ok (.lcmp, 1) := by decide +kernel
theorem dL_holds_504 : decode cL_holds 504 = .ok (.ifCond .gt 27, 3) := by decide +kernel
theorem dL_holds_507 : decode cL_holds 507 = .ok (.lload 7, 2) := by decide +kernel
theorem dL_holds_509 : decode cL_holds 509 = .ok (.lload 11, 2) := by decide +kernel
theorem dL_holds_511 : decode cL_holds 511 = .ok (.lcmp, 1) := by decide +kernel
theorem dL_holds_512 : decode cL_holds 512 = .ok (.ifCond .gt 19, 3) := by decide +kernel
theorem dL_holds_515 : decode cL_holds 515 = .ok (.iload_n 3, 1) := by decide +kernel
theorem dL_holds_516 : decode cL_holds 516 = .ok (.aload_n 0, 1) := by decide +kernel
theorem dL_holds_517 : decode cL_holds 517 = .ok (.invokevirtual 170, 3) := by decide +kernel
theorem dL_holds_520 : decode cL_holds 520 = .ok (.ishr, 1) := by decide +kernel
theorem dL_holds_521 : decode cL_holds 521 = .ok (.iconst 1, 1) := by decide +kernel
theorem dL_holds_522 : decode cL_holds 522 = .ok (.iand, 1) := by decide +kernel
theorem dL_holds_523 : decode cL_holds 523 = .ok (.iconst 1, 1) := by decide +kernel
theorem dL_holds_524 : decode cL_holds 524 = .ok (.if_icmp .ne 7, 3) := by decide +kernel
theorem dL_holds_527 : decode cL_holds 527 = .ok (.iconst 1, 1) := by decide +kernel
theorem dL_holds_528 : decode cL_holds 528 = .ok (.goto 4, 3) := by decide +kernel
theorem dL_holds_531 : decode cL_holds 531 = .ok (.iconst 0, 1) := by decide +kernel
theorem dL_holds_532 : decode cL_holds 532 = .ok (.ireturn, 1) := by decide +kernel
theorem dL_acts_0 : decode cL_acts 0 = .ok (.iload_n 2, 1) := by decide +kernel
theorem dL_acts_1 : decode cL_acts 1 = .ok (.bipush 16, 2) := by decide +kernel
theorem dL_acts_3 : decode cL_acts 3 = .ok (.idiv, 1) := by decide +kernel
theorem dL_acts_4 : decode cL_acts 4 = .ok (.istore_n 3, 1) := by decide +kernel
theorem dL_acts_5 : decode cL_acts 5 = .ok (.iload_n 2, 1) := by decide +kernel
theorem dL_acts_6 : decode cL_acts 6 = .ok (.bipush 16, 2) := by decide +kernel
theorem dL_acts_8 : decode cL_acts 8 = .ok (.irem, 1) := by decide +kernel
theorem dL_acts_9 : decode cL_acts 9 = .ok (.istore 4, 2) := by decide +kernel
theorem dL_acts_11 : decode cL_acts 11 = .ok (.iload 4, 2) := by decide +kernel
theorem dL_acts_13 : decode cL_acts 13 = .ok (.iconst 2, 1) := by decide +kernel
theorem dL_acts_14 : decode cL_acts 14 = .ok (.if_icmp .lt 10, 3) := by decide +kernel
theorem dL_acts_17 : decode cL_acts 17 = .ok (.aload_n 0, 1) := by decide +kernel
theorem dL_acts_18 : decode cL_acts 18 = .ok (.invokevirtual 83, 3) := by decide +kernel
theorem dL_acts_21 : decode cL_acts 21 = .ok (.ifCond .ne 87, 3) := by decide +kernel
theorem dL_acts_24 : decode cL_acts 24 = .ok (.iload_n 3, 1) := by decide +kernel
theorem dL_acts_25 : decode cL_acts 25 = .ok (.iconst 4, 1) := by decide +kernel
theorem dL_acts_26 : decode cL_acts 26 = .ok (.irem, 1) := by decide +kernel
theorem dL_acts_27 : decode cL_acts 27 = .ok (.ifCond .ne 15, 3) := by decide +kernel
theorem dL_acts_30 : decode cL_acts 30 = .ok (.iload_n 3, 1) := by decide +kernel
theorem dL_acts_31 : decode cL_acts 31 = .ok (.iconst 4, 1) := by decide +kernel
theorem dL_acts_32 : decode cL_acts 32 = .ok (.idiv, 1) := by decide +kernel
theorem dL_acts_33 : decode cL_acts 33 = .ok (.ldc 186, 2) := by decide +kernel
theorem dL_acts_35 : decode cL_acts 35 = .ok (.irem, 1) := by decide +kernel
theorem dL_acts_36 : decode cL_acts 36 = .ok (.ldc 187, 2) := by decide +kernel
theorem dL_acts_38 : decode cL_acts 38 = .ok (.isub, 1) := by decide +kernel
theorem dL_acts_39 : decode cL_acts 39 = .ok (.goto 14, 3) := by decide +kernel
theorem dL_acts_42 : decode cL_acts 42 = .ok (.iload_n 3, 1) := by decide +kernel
theorem dL_acts_43 : decode cL_acts 43 = .ok (.iconst 4, 1) := by decide +kernel
theorem dL_acts_44 : decode cL_acts 44 = .ok (.idiv, 1) := by decide +kernel
theorem dL_acts_45 : decode cL_acts 45 = .ok (.sipush 4001, 3) := by decide +kernel
theorem dL_acts_48 : decode cL_acts 48 = .ok (.irem, 1) := by decide +kernel
theorem dL_acts_49 : decode cL_acts 49 = .ok (.sipush 2000, 3) := by decide +kernel
theorem dL_acts_52 : decode cL_acts 52 = .ok (.isub, 1) := by decide +kernel
theorem dL_acts_53 : decode cL_acts 53 = .ok (.istore 5, 2) := by decide +kernel
theorem dL_acts_55 : decode cL_acts 55 = .ok (.aload_n 0, 1) := by decide +kernel
theorem dL_acts_56 : decode cL_acts 56 = .ok (.iconst 1, 1) := by decide +kernel
theorem dL_acts_57 : decode cL_acts 57 = .ok (.iload_n 3, 1) := by decide +kernel
theorem dL_acts_58 : decode cL_acts 58 = .ok (.bipush 9, 2) := by decide +kernel
theorem dL_acts_60 : decode cL_acts 60 = .ok (.irem, 1) := by decide +kernel
theorem dL_acts_61 : decode cL_acts 61 = .ok (.iadd, 1) := by decide +kernel
theorem dL_acts_62 : decode cL_acts 62 = .ok (.iload 5, 2) := by decide +kernel
theorem dL_acts_64 : decode cL_acts 64 = .ok (.iload_n 3, 1) := by decide +kernel
theorem dL_acts_65 : decode cL_acts 65 = .ok (.sipush 300, 3) := by decide +kernel
theorem dL_acts_68 : decode cL_acts 68 = .ok (.irem, 1) := by decide +kernel
theorem dL_acts_69 : decode cL_acts 69 = .ok (.iload_n 3, 1) := by decide +kernel
theorem dL_acts_70 : decode cL_acts 70 = .ok (.sipush 700, 3) := by decide +kernel
theorem dL_acts_73 : decode cL_acts 73 = .ok (.irem, 1) := by decide +kernel
theorem dL_acts_74 : decode cL_acts 74 = .ok (.invokestatic 104, 3) := by decide +kernel
theorem dL_acts_77 : decode cL_acts 77 = .ok (.aload_n 1, 1) := by decide +kernel
theorem dL_acts_78 : decode cL_acts 78 = .ok (.iconst 1, 1) := by decide +kernel
theorem dL_acts_79 : decode cL_acts 79 = .ok (.iload_n 3, 1) := by decide +kernel
theorem dL_acts_80 : decode cL_acts 80 = .ok (.bipush 9, 2) := by decide +kernel
theorem dL_acts_82 : decode cL_acts 82 = .ok (.irem, 1) := by decide +kernel
theorem dL_acts_83 : decode cL_acts 83 = .ok (.iadd, 1) := by decide +kernel
theorem dL_acts_84 : decode cL_acts 84 = .ok (.iload 5, 2) := by decide +kernel
theorem dL_acts_86 : decode cL_acts 86 = .ok (.iload_n 3, 1) := by decide +kernel
theorem dL_acts_87 : decode cL_acts 87 = .ok (.sipush 300, 3) := by decide +kernel
theorem dL_acts_90 : decode cL_acts 90 = .ok (.irem, 1) := by decide +kernel
theorem dL_acts_91 : decode cL_acts 91 = .ok (.iload_n 3, 1) := by decide +kernel
theorem dL_acts_92 : decode cL_acts 92 = .ok (.sipush 700, 3) := by decide +kernel
theorem dL_acts_95 : decode cL_acts 95 = .ok (.irem, 1) := by decide +kernel
theorem dL_acts_96 : decode cL_acts 96 = .ok (.invokestatic 104, 3) := by decide +kernel
theorem dL_acts_99 : decode cL_acts 99 = .ok (.if_icmp .ne 7, 3) := by decide +kernel
theorem dL_acts_102 : decode cL_acts 102 = .ok (.iconst 1, 1) := by decide +kernel
theorem dL_acts_103 : decode cL_acts 103 = .ok (.goto 4, 3) := by decide +kernel
theorem dL_acts_106 : decode cL_acts 106 = .ok (.iconst 0, 1) := by decide +kernel
theorem dL_acts_107 : decode cL_acts 107 = .ok (.ireturn, 1) := by decide +kernel
theorem dL_acts_108 : decode cL_acts 108 = .ok (.iload_n 3, 1) := by decide +kernel
theorem dL_acts_109 : decode cL_acts 109 = .ok (.aload_n 0, 1) := by decide +kernel
theorem dL_acts_110 : decode cL_acts 110 = .ok (.invokevirtual 83, 3) := by decide +kernel
theorem dL_acts_113 : decode cL_acts 113 = .ok (.irem, 1) := by decide +kernel
theorem dL_acts_114 : decode cL_acts 114 = .ok (.istore 5, 2) := by decide +kernel
theorem dL_acts_116 : decode cL_acts 116 = .ok (.iload 4, 2) := by decide +kernel
theorem dL_acts_118 : decode cL_acts 118 = .ok (.bipush 9, 2) := by decide +kernel
theorem dL_acts_120 : decode cL_acts 120 = .ok (.if_icmp .ge 91, 3) := by decide +kernel
theorem dL_acts_123 : decode cL_acts 123 = .ok (.iload_n 3, 1) := by decide +kernel
theorem dL_acts_124 : decode cL_acts 124 = .ok (.bipush 7, 2) := by decide +kernel
theorem dL_acts_126 : decode cL_acts 126 = .ok (.irem, 1) := by decide +kernel
theorem dL_acts_127 : decode cL_acts 127 = .ok (.ifCond .ne 13, 3) := by decide +kernel
theorem dL_acts_130 : decode cL_acts 130 = .ok (.iload_n 3, 1) := by decide +kernel
theorem dL_acts_131 : decode cL_acts 131 = .ok (.bipush 7, 2) := by decide +kernel
theorem dL_acts_133 : decode cL_acts 133 = .ok (.idiv, 1) := by decide +kernel
theorem dL_acts_134 : decode cL_acts 134 = .ok (.ldc 148, 2) := by decide +kernel
theorem dL_acts_136 : decode cL_acts 136 = .ok (.irem, 1) := by decide +kernel
theorem dL_acts_137 : decode cL_acts 137 = .ok (.goto 11, 3) := by decide +kernel
theorem dL_acts_140 : decode cL_acts 140 = .ok (.iload_n 3, 1) := by decide +kernel
theorem dL_acts_141 : decode cL_acts 141 = .ok (.bipush 7, 2) := by decide +kernel
theorem dL_acts_143 : decode cL_acts 143 = .ok (.idiv, 1) := by decide +kernel
theorem dL_acts_144 : decode cL_acts 144 = .ok (.sipush 2500, 3) := by decide +kernel
theorem dL_acts_147 : decode cL_acts 147 = .ok (.irem, 1) := by decide +kernel
theorem dL_acts_148 : decode cL_acts 148 = .ok (.istore 6, 2) := by decide +kernel
theorem dL_acts_150 : decode cL_acts 150 = .ok (.iload_n 3, 1) := by decide +kernel
theorem dL_acts_151 : decode cL_acts 151 = .ok (.iconst 3, 1) := by decide +kernel
theorem dL_acts_152 : decode cL_acts 152 = .ok (.irem, 1) := by decide +kernel
theorem dL_acts_153 : decode cL_acts 153 = .ok (.ifCond .ne 8, 3) := by decide +kernel
theorem dL_acts_156 : decode cL_acts 156 = .ok (.iload 6, 2) := by decide +kernel
theorem dL_acts_158 : decode cL_acts 158 = .ok (.goto 11, 3) := by decide +kernel
theorem dL_acts_161 : decode cL_acts 161 = .ok (.iload_n 3, 1) := by decide +kernel
theorem dL_acts_162 : decode cL_acts 162 = .ok (.bipush 21, 2) := by decide +kernel
theorem dL_acts_164 : decode cL_acts 164 = .ok (.idiv, 1) := by decide +kernel
theorem dL_acts_165 : decode cL_acts 165 = .ok (.sipush 2500, 3) := by decide +kernel
theorem dL_acts_168 : decode cL_acts 168 = .ok (.irem, 1) := by decide +kernel
theorem dL_acts_169 : decode cL_acts 169 = .ok (.istore 7, 2) := by decide +kernel
theorem dL_acts_171 : decode cL_acts 171 = .ok (.aload_n 0, 1) := by decide +kernel
theorem dL_acts_172 : decode cL_acts 172 = .ok (.iload 5, 2) := by decide +kernel
theorem dL_acts_174 : decode cL_acts 174 = .ok (.iload 6, 2) := by decide +kernel
theorem dL_acts_176 : decode cL_acts 176 = .ok (.iload_n 3, 1) := by decide +kernel
theorem dL_acts_177 : decode cL_acts 177 = .ok (.sipush 999, 3) := by decide +kernel
theorem dL_acts_180 : decode cL_acts 180 = .ok (.irem, 1) := by decide +kernel
theorem dL_acts_181 : decode cL_acts 181 = .ok (.iload 7, 2) := by decide +kernel
theorem dL_acts_183 : decode cL_acts 183 = .ok (.invokestatic 114, 3) := by decide +kernel
theorem dL_acts_186 : decode cL_acts 186 = .ok (.aload_n 1, 1) := by decide +kernel
theorem dL_acts_187 : decode cL_acts 187 = .ok (.iload 5, 2) := by decide +kernel
theorem dL_acts_189 : decode cL_acts 189 = .ok (.iload 6, 2) := by decide +kernel
theorem dL_acts_191 : decode cL_acts 191 = .ok (.iload_n 3, 1) := by decide +kernel
theorem dL_acts_192 : decode cL_acts 192 = .ok (.sipush 999, 3) := by decide +kernel
theorem dL_acts_195 : decode cL_acts 195 = .ok (.irem, 1) := by decide +kernel
theorem dL_acts_196 : decode cL_acts 196 = .ok (.iload 7, 2) := by decide +kernel
theorem dL_acts_198 : decode cL_acts 198 = .ok (.invokestatic 114, 3) := by decide +kernel
theorem dL_acts_201 : decode cL_acts 201 = .ok (.lcmp, 1) := by decide +kernel
theorem dL_acts_202 : decode cL_acts 202 = .ok (.ifCond .ne 7, 3) := by decide +kernel
theorem dL_acts_205 : decode cL_acts 205 = .ok (.iconst 1, 1) := by decide +kernel
theorem dL_acts_206 : decode cL_acts 206 = .ok (.goto 4, 3) := by decide +kernel
theorem dL_acts_209 : decode cL_acts 209 = .ok (.iconst 0, 1) := by decide +kernel
theorem dL_acts_210 : decode cL_acts 210 = .ok (.ireturn, 1) := by decide +kernel
theorem dL_acts_211 : decode cL_acts 211 = .ok (.iload 4, 2) := by decide +kernel
theorem dL_acts_213 : decode cL_acts 213 = .ok (.bipush 12, 2) := by decide +kernel
theorem dL_acts_215 : decode cL_acts 215 = .ok (.if_icmp .ge 110, 3) := by decide +kernel
theorem dL_acts_218 : decode cL_acts 218 = .ok (.iconst 3, 1) := by decide +kernel
theorem dL_acts_219 : decode cL_acts 219 = .ok (.iload 4, 2) := by decide +kernel
theorem dL_acts_221 : decode cL_acts 221 = .ok (.bipush 9, 2) := by decide +kernel
theorem dL_acts_223 : decode cL_acts 223 = .ok (.if_icmp .ne 10, 3) := by decide +kernel
theorem dL_acts_226 : decode cL_acts 226 = .ok (.iload_n 3, 1) := by decide +kernel
theorem dL_acts_227 : decode cL_acts 227 = .ok (.ldc 188, 2) := by decide +kernel
theorem dL_acts_229 : decode cL_acts 229 = .ok (.irem, 1) := by decide +kernel
theorem dL_acts_230 : decode cL_acts 230 = .ok (.goto 7, 3) := by decide +kernel
theorem dL_acts_233 : decode cL_acts 233 = .ok (.iload_n 3, 1) := by decide +kernel
theorem dL_acts_234 : decode cL_acts 234 = .ok (.ldc 189, 2) := by decide +kernel
theorem dL_acts_236 : decode cL_acts 236 = .ok (.irem, 1) := by decide +kernel
theorem dL_acts_237 : decode cL_acts 237 = .ok (.iadd, 1) := by decide +kernel
theorem dL_acts_238 : decode cL_acts 238 = .ok (.istore 6, 2) := by decide +kernel
theorem dL_acts_240 : decode cL_acts 240 = .ok (.iconst 1, 1) := by decide +kernel
theorem dL_acts_241 : decode cL_acts 241 = .ok (.iload_n 3, 1) := by decide +kernel
theorem dL_acts_242 : decode cL_acts 242 = .ok (.bipush 7, 2) := by decide +kernel
theorem dL_acts_244 : decode cL_acts 244 = .ok (.idiv, 1) := by decide +kernel
theorem dL_acts_245 : decode cL_acts 245 = .ok (.iload 6, 2) := by decide +kernel
theorem dL_acts_247 : decode cL_acts 247 = .ok (.iconst 2, 1) := by decide +kernel
theorem dL_acts_248 : decode cL_acts 248 = .ok (.isub, 1) := by decide +kernel
theorem dL_acts_249 : decode cL_acts 249 = .ok (.irem, 1) := by decide +kernel
theorem dL_acts_250 : decode cL_acts 250 = .ok (.iadd, 1) := by decide +kernel
theorem dL_acts_251 : decode cL_acts 251 = .ok (.istore 7, 2) := by decide +kernel
theorem dL_acts_253 : decode cL_acts 253 = .ok (.iconst 1, 1) := by decide +kernel
theorem dL_acts_254 : decode cL_acts 254 = .ok (.iload_n 3, 1) := by decide +kernel
theorem dL_acts_255 : decode cL_acts 255 = .ok (.bipush 11, 2) := by decide +kernel
theorem dL_acts_257 : decode cL_acts 257 = .ok (.idiv, 1) := by decide +kernel
theorem dL_acts_258 : decode cL_acts 258 = .ok (.iload 6, 2) := by decide +kernel
theorem dL_acts_260 : decode cL_acts 260 = .ok (.iload 7, 2) := by decide +kernel
theorem dL_acts_262 : decode cL_acts 262 = .ok (.isub, 1) := by decide +kernel
theorem dL_acts_263 : decode cL_acts 263 = .ok (.iconst 1, 1) := by decide +kernel
theorem dL_acts_264 : decode cL_acts 264 = .ok (.isub, 1) := by decide +kernel
theorem dL_acts_265 : decode cL_acts 265 = .ok (.irem, 1) := by decide +kernel
theorem dL_acts_266 : decode cL_acts 266 = .ok (.iadd, 1) := by decide +kernel
theorem dL_acts_267 : decode cL_acts 267 = .ok (.istore 8, 2) := by decide +kernel
theorem dL_acts_269 : decode cL_acts 269 = .ok (.aload_n 0, 1) := by decide +kernel
theorem dL_acts_270 : decode cL_acts 270 = .ok (.iload 6, 2) := by decide +kernel
theorem dL_acts_272 : decode cL_acts 272 = .ok (.invokestatic 93, 3) := by decide +kernel
theorem dL_acts_275 : decode cL_acts 275 = .ok (.lstore 9, 2) := by decide +kernel
theorem dL_acts_277 : decode cL_acts 277 = .ok (.aload_n 1, 1) := by decide +kernel
theorem dL_acts_278 : decode cL_acts 278 = .ok (.iload 7, 2) := by decide +kernel
theorem dL_acts_280 : decode cL_acts 280 = .ok (.invokestatic 93, 3) := by decide +kernel
theorem dL_acts_283 : decode cL_acts 283 = .ok (.lload 9, 2) := by decide +kernel
theorem dL_acts_285 : decode cL_acts 285 = .ok (.lcmp, 1) := by decide +kernel
theorem dL_acts_286 : decode cL_acts 286 = .ok (.ifCond .gt 37, 3) := by decide +kernel
theorem dL_acts_289 : decode cL_acts 289 = .ok (.aload_n 1, 1) := by decide +kernel
theorem dL_acts_290 : decode cL_acts 290 = .ok (.iload 8, 2) := by decide +kernel
theorem dL_acts_292 : decode cL_acts 292 = .ok (.invokestatic 93, 3) := by decide +kernel
theorem dL_acts_295 : decode cL_acts 295 = .ok (.lload 9, 2) := by decide +kernel
theorem dL_acts_297 : decode cL_acts 297 = .ok (.lcmp, 1) := by decide +kernel
theorem dL_acts_298 : decode cL_acts 298 = .ok (.ifCond .gt 25, 3) := by decide +kernel
theorem dL_acts_301 : decode cL_acts 301 = .ok (.aload_n 1, 1) := by decide +kernel
theorem dL_acts_302 : decode cL_acts 302 = .ok (.iload 6, 2) := by decide +kernel
theorem dL_acts_304 : decode cL_acts 304 = .ok (.iload 7, 2) := by decide +kernel
theorem dL_acts_306 : decode cL_acts 306 = .ok (.isub, 1) := by decide +kernel
theorem dL_acts_307 : decode cL_acts 307 = .ok (.iload 8, 2) := by decide +kernel
theorem dL_acts_309 : decode cL_acts 309 = .ok (.isub, 1) := by decide +kernel
theorem dL_acts_310 : decode cL_acts 310 = .ok (.invokestatic 93, 3) := by decide +kernel
theorem dL_acts_313 : decode cL_acts 313 = .ok (.lload 9, 2) := by decide +kernel
theorem dL_acts_315 : decode cL_acts 315 = .ok (.lcmp, 1) := by decide +kernel
theorem dL_acts_316 : decode cL_acts 316 = .ok (.ifCond .ne 7, 3) := by decide +kernel
theorem dL_acts_319 : decode cL_acts 319 = .ok (.iconst 1, 1) := by decide +kernel
theorem dL_acts_320 : decode cL_acts 320 = .ok (.goto 4, 3) := by decide +kernel
theorem dL_acts_323 : decode cL_acts 323 = .ok (.iconst 0, 1) := by decide +kernel
theorem dL_acts_324 : decode cL_acts 324 = .ok (.ireturn, 1) := by decide +kernel
theorem dL_acts_325 : decode cL_acts 325 = .ok (.iload 4, 2) := by decide +kernel
theorem dL_acts_327 : decode cL_acts 327 = .ok (.bipush 12, 2) := by decide +kernel
theorem dL_acts_329 : decode cL_acts 329 = .ok (.if_icmp .ne 38, 3) := by decide +kernel
theorem dL_acts_332 : decode cL_acts 332 = .ok (.aload_n 0, 1) := by decide +kernel
theorem dL_acts_333 : decode cL_acts 333 = .ok (.iload_n 3, 1) := by decide +kernel
theorem dL_acts_334 : decode cL_acts 334 = .ok (.sipush 601, 3) := by decide +kernel
theorem dL_acts_337 : decode cL_acts 337 = .ok (.irem, 1) := by decide +kernel
theorem dL_acts_338 : decode cL_acts 338 = .ok (.sipush 300, 3) := by decide +kernel
theorem dL_acts_341 : decode cL_acts 341 = .ok (.isub, 1) := by decide +kernel
theorem dL_acts_342 : decode cL_acts 342 = .ok (.invokestatic 97, 3) := by decide +kernel
theorem dL_acts_345 : decode cL_acts 345 = .ok (.aload_n 1, 1) := by decide +kernel
theorem dL_acts_346 : decode cL_acts 346 = .ok (.iload_n 3, 1) := by decide +kernel
theorem dL_acts_347 : decode cL_acts 347 = .ok (.sipush 601, 3) := by decide +kernel
theorem dL_acts_350 : decode cL_acts 350 = .ok (.irem, 1) := by decide +kernel
theorem dL_acts_351 : decode cL_acts 351 = .ok (.sipush 300, 3) := by decide +kernel
theorem dL_acts_354 : decode cL_acts 354 = .ok (.isub, 1) := by decide +kernel
theorem dL_acts_355 : decode cL_acts 355 = .ok (.invokestatic 97, 3) := by decide +kernel
theorem dL_acts_358 : decode cL_acts 358 = .ok (.if_icmp .ne 7, 3) := by decide +kernel
theorem dL_acts_361 : decode cL_acts 361 = .ok (.iconst 1, 1) := by decide +kernel
theorem dL_acts_362 : decode cL_acts 362 = .ok (.goto 4, 3) := by decide +kernel
theorem dL_acts_365 : decode cL_acts 365 = .ok (.iconst 0, 1) := by decide +kernel
theorem dL_acts_366 : decode cL_acts 366 = .ok (.ireturn, 1) := by decide +kernel
theorem dL_acts_367 : decode cL_acts 367 = .ok (.iload 4, 2) := by decide +kernel
theorem dL_acts_369 : decode cL_acts 369 = .ok (.bipush 13, 2) := by decide +kernel
theorem dL_acts_371 : decode cL_acts 371 = .ok (.if_icmp .ne 49, 3) := by decide +kernel
theorem dL_acts_374 : decode cL_acts 374 = .ok (.aload_n 0, 1) := by decide +kernel
theorem dL_acts_375 : decode cL_acts 375 = .ok (.iload_n 3, 1) := by decide +kernel
theorem dL_acts_376 : decode cL_acts 376 = .ok (.iconst 3, 1) := by decide +kernel
theorem dL_acts_377 : decode cL_acts 377 = .ok (.irem, 1) := by decide +kernel
theorem dL_acts_378 : decode cL_acts 378 = .ok (.iload_n 3, 1) := by decide +kernel
theorem dL_acts_379 : decode cL_acts 379 = .ok (.iconst 2, 1) := by decide +kernel
theorem dL_acts_380 : decode cL_acts 380 = .ok (.irem, 1) := by decide +kernel
theorem dL_acts_381 : decode cL_acts 381 = .ok (.ifCond .ne 7, 3) := by decide +kernel
theorem dL_acts_384 : decode cL_acts 384 = .ok (.iconst 1, 1) := by decide +kernel
theorem dL_acts_385 : decode cL_acts 385 = .ok (.goto 4, 3) := by decide +kernel
theorem dL_acts_388 : decode cL_acts 388 = .ok (.iconst 0, 1) := by decide +kernel
theorem dL_acts_389 : decode cL_acts 389 = .ok (.invokestatic 100, 3) := by decide +kernel
theorem dL_acts_392 : decode cL_acts 392 = .ok (.aload_n 1, 1) := by decide +kernel
theorem dL_acts_393 : decode cL_acts 393 = .ok (.iload_n 3, 1) := by decide +kernel
theorem dL_acts_394 : decode cL_acts 394 = .ok (.iconst 3, 1) := by decide +kernel
theorem dL_acts_395 : decode cL_acts 395 = .ok (.irem, 1) := by decide +kernel
theorem dL_acts_396 : decode cL_acts 396 = .ok (.iload_n 3, 1) := by decide +kernel
theorem dL_acts_397 : decode cL_acts 397 = .ok (.iconst 2, 1) := by decide +kernel
theorem dL_acts_398 : decode cL_acts 398 = .ok (.irem, 1) := by decide +kernel
theorem dL_acts_399 : decode cL_acts 399 = .ok (.ifCond .ne 7, 3) := by decide +kernel
theorem dL_acts_402 : decode cL_acts 402 = .ok (.iconst 1, 1) := by decide +kernel
theorem dL_acts_403 : decode cL_acts 403 = .ok (.goto 4, 3) := by decide +kernel
theorem dL_acts_406 : decode cL_acts 406 = .ok (.iconst 0, 1) := by decide +kernel
theorem dL_acts_407 : decode cL_acts 407 = .ok (.invokestatic 100, 3) := by decide +kernel
theorem dL_acts_410 : decode cL_acts 410 = .ok (.lcmp, 1) := by decide +kernel
theorem dL_acts_411 : decode cL_acts 411 = .ok (.ifCond .ne 7, 3) := by decide +kernel
theorem dL_acts_414 : decode cL_acts 414 = .ok (.iconst 1, 1) := by decide +kernel
theorem dL_acts_415 : decode cL_acts 415 = .ok (.goto 4, 3) := by decide +kernel
theorem dL_acts_418 : decode cL_acts 418 = .ok (.iconst 0, 1) := by decide +kernel
theorem dL_acts_419 : decode cL_acts 419 = .ok (.ireturn, 1) := by decide +kernel
theorem dL_acts_420 : decode cL_acts 420 = .ok (.aload_n 0, 1) := by decide +kernel
theorem dL_acts_421 : decode cL_acts 421 = .ok (.invokestatic 132, 3) := by decide +kernel
theorem dL_acts_424 : decode cL_acts 424 = .ok (.aload_n 1, 1) := by decide +kernel
theorem dL_acts_425 : decode cL_acts 425 = .ok (.invokestatic 132, 3) := by decide +kernel
theorem dL_acts_428 : decode cL_acts 428 = .ok (.if_icmp .ne 7, 3) := by decide +kernel
theorem dL_acts_431 : decode cL_acts 431 = .ok (.iconst 1, 1) := by decide +kernel
theorem dL_acts_432 : decode cL_acts 432 = .ok (.goto 4, 3) := by decide +kernel
theorem dL_acts_435 : decode cL_acts 435 = .ok (.iconst 0, 1) := by decide +kernel
theorem dL_acts_436 : decode cL_acts 436 = .ok (.ireturn, 1) := by decide +kernel
theorem dL_slews_0 : decode cL_slews 0 = .ok (.new 8, 3) := by decide +kernel
theorem dL_slews_3 : decode cL_slews 3 = .ok (.dup, 1) := by decide +kernel
theorem dL_slews_4 : decode cL_slews 4 = .ok (.invokespecial 190, 3) := by decide +kernel
theorem dL_slews_7 : decode cL_slews 7 = .ok (.astore 5, 2) := by decide +kernel
theorem dL_slews_9 : decode cL_slews 9 = .ok (.new 8, 3) := by decide +kernel
theorem dL_slews_12 : decode cL_slews 12 = .ok (.dup, 1) := by decide +kernel
theorem dL_slews_13 : decode cL_slews 13 = .ok (.invokespecial 190, 3) := by decide +kernel
theorem dL_slews_16 : decode cL_slews 16 = .ok (.astore 6, 2) := by decide +kernel
theorem dL_slews_18 : decode cL_slews 18 = .ok (.aload 5, 2) := by decide +kernel
theorem dL_slews_20 : decode cL_slews 20 = .ok (.iload_n 0, 1) := by decide +kernel
theorem dL_slews_21 : decode cL_slews 21 = .ok (.invokestatic 87, 3) := by decide +kernel
theorem dL_slews_24 : decode cL_slews 24 = .ok (.ifCond .ne 86, 3) := by decide +kernel
theorem dL_slews_27 : decode cL_slews 27 = .ok (.aload 6, 2) := by decide +kernel
theorem dL_slews_29 : decode cL_slews 29 = .ok (.iload_n 0, 1) := by decide +kernel
theorem dL_slews_30 : decode cL_slews 30 = .ok (.invokestatic 87, 3) := by decide +kernel
theorem dL_slews_33 : decode cL_slews 33 = .ok (.ifCond .ne 77, 3) := by decide +kernel
theorem dL_slews_36 : decode cL_slews 36 = .ok (.aload 5, 2) := by decide +kernel
theorem dL_slews_38 : decode cL_slews 38 = .ok (.iload_n 1, 1) := by decide +kernel
theorem dL_slews_39 : decode cL_slews 39 = .ok (.invokestatic 97, 3) := by decide +kernel
theorem dL_slews_42 : decode cL_slews 42 = .ok (.ifCond .ne 68, 3) := by decide +kernel
theorem dL_slews_45 : decode cL_slews 45 = .ok (.aload 6, 2) := by decide +kernel
theorem dL_slews_47 : decode cL_slews 47 = .ok (.iload_n 1, 1) := by decide +kernel
theorem dL_slews_48 : decode cL_slews 48 = .ok (.invokestatic 97, 3) := by decide +kernel
theorem dL_slews_51 : decode cL_slews 51 = .ok (.ifCond .ne 59, 3) := by decide +kernel
theorem dL_slews_54 : decode cL_slews 54 = .ok (.aload 5, 2) := by decide +kernel
theorem dL_slews_56 : decode cL_slews 56 = .ok (.iconst 2, 1) := by decide +kernel
theorem dL_slews_57 : decode cL_slews 57 = .ok (.iload_n 2, 1) := by decide +kernel
theorem dL_slews_58 : decode cL_slews 58 = .ok (.iconst 0, 1) := by decide +kernel
theorem dL_slews_59 : decode cL_slews 59 = .ok (.iconst 0, 1) := by decide +kernel
theorem dL_slews_60 : decode cL_slews 60 = .ok (.invokestatic 104, 3) := by decide +kernel
theorem dL_slews_63 : decode cL_slews 63 = .ok (.ifCond .ne 47, 3) := by decide +kernel
theorem dL_slews_66 : decode cL_slews 66 = .ok (.aload 5, 2) := by decide +kernel
theorem dL_slews_68 : decode cL_slews 68 = .ok (.iconst 0, 1) := by decide +kernel
theorem dL_slews_69 : decode cL_slews 69 = .ok (.iload_n 3, 1) := by decide +kernel
theorem dL_slews_70 : decode cL_slews 70 = .ok (.iconst 0, 1) := by decide +kernel
theorem dL_slews_71 : decode cL_slews 71 = .ok (.iload 4, 2) := by decide +kernel
theorem dL_slews_73 : decode cL_slews 73 = .ok (.invokestatic 114, 3) := by decide +kernel
theorem dL_slews_76 : decode cL_slews 76 = .ok (.lconst 0, 1) := by decide +kernel
theorem dL_slews_77 : decode cL_slews 77 = .ok (.lcmp, 1) := by decide +kernel
theorem dL_slews_78 : decode cL_slews 78 = .ok (.ifCond .lt 32, 3) := by decide +kernel
theorem dL_slews_81 : decode cL_slews 81 = .ok (.iload_n 3, 1) := by decide +kernel
theorem dL_slews_82 : decode cL_slews 82 = .ok (.iload 4, 2) := by decide +kernel
theorem dL_slews_84 : decode cL_slews 84 = .ok (.iadd, 1) := by decide +kernel
theorem dL_slews_85 : decode cL_slews 85 = .ok (.ifCond .eq 21, 3) := by decide +kernel
theorem dL_slews_88 : decode cL_slews 88 = .ok (.aload 6, 2) := by decide +kernel
theorem dL_slews_90 : decode cL_slews 90 = .ok (.iload_n 3, 1) := by decide +kernel
theorem dL_slews_91 : decode cL_slews 91 = .ok (.iload 4, 2) := by decide +kernel
theorem dL_slews_93 : decode cL_slews 93 = .ok (.iadd, 1) := by decide +kernel
theorem dL_slews_94 : decode cL_slews 94 = .ok (.invokestatic 93, 3) := by decide +kernel
theorem dL_slews_97 : decode cL_slews 97 = .ok (.aload 5, 2) := by decide +kernel
theorem dL_slews_99 : decode cL_slews 99 = .ok (.invokevirtual 152, 3) := by decide +kernel
theorem dL_slews_102 : decode cL_slews 102 = .ok (.lcmp, 1) := by decide +kernel
theorem dL_slews_103 : decode cL_slews 103 = .ok (.ifCond .ne 7, 3) := by decide +kernel
theorem dL_slews_106 : decode cL_slews 106 = .ok (.iconst 1, 1) := by decide +kernel
theorem dL_slews_107 : decode cL_slews 107 = .ok (.goto 4, 3) := by decide +kernel
theorem dL_slews_110 : decode cL_slews 110 = .ok (.iconst 0, 1) := by decide +kernel
theorem dL_slews_111 : decode cL_slews 111 = .ok (.istore 7, 2) := by decide +kernel
theorem dL_slews_113 : decode cL_slews 113 = .ok (.aload 5, 2) := by decide +kernel
theorem dL_slews_115 : decode cL_slews 115 = .ok (.invokestatic 144, 3) := by decide +kernel
theorem dL_slews_118 : decode cL_slews 118 = .ok (.lstore 8, 2) := by decide +kernel
theorem dL_slews_120 : decode cL_slews 120 = .ok (.iload 7, 2) := by decide +kernel
theorem dL_slews_122 : decode cL_slews 122 = .ok (.ifCond .eq 11, 3) := by decide +kernel
theorem dL_slews_125 : decode cL_slews 125 = .ok (.aload 5, 2) := by decide +kernel
theorem dL_slews_127 : decode cL_slews 127 = .ok (.invokestatic 132, 3) := by decide +kernel
theorem dL_slews_130 : decode cL_slews 130 = .ok (.goto 4, 3) := by decide +kernel
theorem dL_slews_133 : decode cL_slews 133 = .ok (.iconst 0, 1) := by decide +kernel
theorem dL_slews_134 : decode cL_slews 134 = .ok (.istore 10, 2) := by decide +kernel
theorem dL_slews_136 : decode cL_slews 136 = .ok (.iload 7, 2) := by decide +kernel
theorem dL_slews_138 : decode cL_slews 138 = .ok (.ifCond .eq 53, 3) := by decide +kernel
theorem dL_slews_141 : decode cL_slews 141 = .ok (.iload 10, 2) := by decide +kernel
theorem dL_slews_143 : decode cL_slews 143 = .ok (.lload 8, 2) := by decide +kernel
theorem dL_slews_145 : decode cL_slews 145 = .ok (.ldc2_w 191, 3) := by decide +kernel
theorem dL_slews_148 : decode cL_slews 148 = .ok (.lcmp, 1) := by decide +kernel
theorem dL_slews_149 : decode cL_slews 149 = .ok (.ifCond .le 7, 3) := by decide +kernel
theorem dL_slews_152 : decode cL_slews 152 = .ok (.iconst 1, 1) := by decide +kernel
theorem dL_slews_153 : decode cL_slews 153 = .ok (.goto 4, 3) := by decide +kernel
theorem dL_slews_156 : decode cL_slews 156 = .ok (.iconst 0, 1) := by decide +kernel
theorem dL_slews_157 : decode cL_slews 157 = .ok (.if_icmp .ne 34, 3) := by decide +kernel
theorem dL_slews_160 : decode cL_slews 160 = .ok (.aload 5, 2) := by decide +kernel
theorem dL_slews_162 : decode cL_slews 162 = .ok (.invokevirtual 152, 3) := by decide +kernel
theorem dL_slews_165 : decode cL_slews 165 = .ok (.aload 6, 2) := by decide +kernel
theorem dL_slews_167 : decode cL_slews 167 = .ok (.invokevirtual 152, 3) := by decide +kernel
theorem dL_slews_170 : decode cL_slews 170 = .ok (.lsub, 1) := by decide +kernel
theorem dL_slews_171 : decode cL_slews 171 = .ok (.iload 10, 2) := by decide +kernel
theorem dL_slews_173 : decode cL_slews 173 = .ok (.iconst 1, 1) := by decide +kernel
theorem dL_slews_174 : decode cL_slews 174 = .ok (.if_icmp .ne 8, 3) := by decide +kernel
theorem dL_slews_177 : decode cL_slews 177 = .ok (.lload 8, 2) := by decide +kernel
theorem dL_slews_179 : decode cL_slews 179 = .ok (.goto 4, 3) := by decide +kernel
theorem dL_slews_182 : decode cL_slews 182 = .ok (.lconst 0, 1) := by decide +kernel
theorem dL_slews_183 : decode cL_slews 183 = .ok (.lcmp, 1) := by decide +kernel
theorem dL_slews_184 : decode cL_slews 184 = .ok (.ifCond .ne 7, 3) := by decide +kernel
theorem dL_slews_187 : decode cL_slews 187 = .ok (.iconst 1, 1) := by decide +kernel
theorem dL_slews_188 : decode cL_slews 188 = .ok (.goto 4, 3) := by decide +kernel
theorem dL_slews_191 : decode cL_slews 191 = .ok (.iconst 0, 1) := by decide +kernel
theorem dL_slews_192 : decode cL_slews 192 = .ok (.istore 7, 2) := by decide +kernel
theorem dL_slews_194 : decode cL_slews 194 = .ok (.iconst 0, 1) := by decide +kernel
theorem dL_slews_195 : decode cL_slews 195 = .ok (.istore 11, 2) := by decide +kernel
theorem dL_slews_197 : decode cL_slews 197 = .ok (.iload 11, 2) := by decide +kernel
theorem dL_slews_199 : decode cL_slews 199 = .ok (.iconst 5, 1) := by decide +kernel
theorem dL_slews_200 : decode cL_slews 200 = .ok (.if_icmp .ge 102, 3) := by decide +kernel
theorem dL_slews_203 : decode cL_slews 203 = .ok (.iload 7, 2) := by decide +kernel
theorem dL_slews_205 : decode cL_slews 205 = .ok (.ifCond .eq 97, 3) := by decide +kernel
theorem dL_slews_208 : decode cL_slews 208 = .ok (.aload 5, 2) := by decide +kernel
theorem dL_slews_210 : decode cL_slews 210 = .ok (.invokevirtual 152, 3) := by decide +kernel
theorem dL_slews_213 : decode cL_slews 213 = .ok (.aload 6, 2) := by decide +kernel
theorem dL_slews_215 : decode cL_slews 215 = .ok (.invokevirtual 152, 3) := by decide +kernel
theorem dL_slews_218 : decode cL_slews 218 = .ok (.lsub, 1) := by decide +kernel
theorem dL_slews_219 : decode cL_slews 219 = .ok (.lstore 12, 2) := by decide +kernel
theorem dL_slews_221 : decode cL_slews 221 = .ok (.aload 5, 2) := by decide +kernel
theorem dL_slews_223 : decode cL_slews 223 = .ok (.ldc 193, 2) := by decide +kernel
theorem dL_slews_225 : decode cL_slews 225 = .ok (.invokestatic 93, 3) := by decide +kernel
theorem dL_slews_228 : decode cL_slews 228 = .ok (.lconst 0, 1) := by decide +kernel
theorem dL_slews_229 : decode cL_slews 229 = .ok (.lcmp, 1) := by decide +kernel
theorem dL_slews_230 : decode cL_slews 230 = .ok (.ifCond .le 63, 3) := by decide +kernel
theorem dL_slews_233 : decode cL_slews 233 = .ok (.aload 6, 2) := by decide +kernel
theorem dL_slews_235 : decode cL_slews 235 = .ok (.ldc 193, 2) := by decide +kernel
theorem dL_slews_237 : decode cL_slews 237 = .ok (.invokestatic 93, 3) := by decide +kernel
theorem dL_slews_240 : decode cL_slews 240 = .ok (.lconst 0, 1) := by decide +kernel
theorem dL_slews_241 : decode cL_slews 241 = .ok (.lcmp, 1) := by decide +kernel
theorem dL_slews_242 : decode cL_slews 242 = .ok (.ifCond .le 51, 3) := by decide +kernel
theorem dL_slews_245 : decode cL_slews 245 = .ok (.lload 8, 2) := by decide +kernel
theorem dL_slews_247 : decode cL_slews 247 = .ok (.lconst 0, 1) := by decide +kernel
theorem dL_slews_248 : decode cL_slews 248 = .ok (.lcmp, 1) := by decide +kernel
theorem dL_slews_249 : decode cL_slews 249 = .ok (.ifCond .ge 23, 3) := by decide +kernel
theorem dL_slews_252 : decode cL_slews 252 = .ok (.aload 5, 2) := by decide +kernel
theorem dL_slews_254 : decode cL_slews 254 = .ok (.invokevirtual 152, 3) := by decide +kernel
theorem dL_slews_257 : decode cL_slews 257 = .ok (.aload 6, 2) := by decide +kernel
theorem dL_slews_259 : decode cL_slews 259 = .ok (.invokevirtual 152, 3) := by decide +kernel
theorem dL_slews_262 : decode cL_slews 262 = .ok (.lsub, 1) := by decide +kernel
theorem dL_slews_263 : decode cL_slews 263 = .ok (.lload 12, 2) := by decide +kernel
theorem dL_slews_265 : decode cL_slews 265 = .ok (.lcmp, 1) := by decide +kernel
theorem dL_slews_266 : decode cL_slews 266 = .ok (.ifCond .gt 27, 3) := by decide +kernel
theorem dL_slews_269 : decode cL_slews 269 = .ok (.goto 20, 3) := by decide +kernel
theorem dL_slews_272 : decode cL_slews 272 = .ok (.aload 5, 2) := by decide +kernel
theorem dL_slews_274 : decode cL_slews 274 = .ok (.invokevirtual 152, 3) := by decide +kernel
theorem dL_slews_277 : decode cL_slews 277 = .ok (.aload 6, 2) := by decide +kernel
theorem dL_slews_279 : decode cL_slews 279 = .ok (.invokevirtual 152, 3) := by decide +kernel
theorem dL_slews_282 : decode cL_slews 282 = .ok (.lsub, 1) := by decide +kernel
theorem dL_slews_283 : decode cL_slews 283 = .ok (.lload 12, 2) := by decide +kernel
theorem dL_slews_285 : decode cL_slews 285 = .ok (.lcmp, 1) := by decide +kernel
theorem dL_slews_286 : decode cL_slews 286 = .ok (.ifCond .lt 7, 3) := by decide +kernel
theorem dL_slews_289 : decode cL_slews 289 = .ok (.iconst 1, 1) := by decide +kernel
theorem dL_slews_290 : decode cL_slews 290 = .ok (.goto 4, 3) := by decide +kernel
theorem dL_slews_293 : decode cL_slews 293 = .ok (.iconst 0, 1) := by decide +kernel
theorem dL_slews_294 : decode cL_slews 294 = .ok (.istore 7, 2) := by decide +kernel
theorem dL_slews_296 : decode cL_slews 296 = .ok (.iinc 11 1, 3) := by decide +kernel
theorem dL_slews_299 : decode cL_slews 299 = .ok (.goto (-102), 3) := by decide +kernel
theorem dL_slews_302 : decode cL_slews 302 = .ok (.iload 7, 2) := by decide +kernel
theorem dL_slews_304 : decode cL_slews 304 = .ok (.ifCond .eq 42, 3) := by decide +kernel
theorem dL_slews_307 : decode cL_slews 307 = .ok (.aload 5, 2) := by decide +kernel
theorem dL_slews_309 : decode cL_slews 309 = .ok (.invokevirtual 158, 3) := by decide +kernel
theorem dL_slews_312 : decode cL_slews 312 = .ok (.lconst 0, 1) := by decide +kernel
theorem dL_slews_313 : decode cL_slews 313 = .ok (.lcmp, 1) := by decide +kernel
theorem dL_slews_314 : decode cL_slews 314 = .ok (.ifCond .ne 32, 3) := by decide +kernel
theorem dL_slews_317 : decode cL_slews 317 = .ok (.aload 5, 2) := by decide +kernel
theorem dL_slews_319 : decode cL_slews 319 = .ok (.invokevirtual 152, 3) := by decide +kernel
theorem dL_slews_322 : decode cL_slews 322 = .ok (.aload 6, 2) := by decide +kernel
theorem dL_slews_324 : decode cL_slews 324 = .ok (.invokevirtual 152, 3) := by decide +kernel
theorem dL_slews_327 : decode cL_slews 327 = .ok (.lsub, 1) := by decide +kernel
theorem dL_slews_328 : decode cL_slews 328 = .ok (.lload 8, 2) := by decide +kernel
theorem dL_slews_330 : decode cL_slews 330 = .ok (.lcmp, 1) := by decide +kernel
theorem dL_slews_331 : decode cL_slews 331 = .ok (.ifCond .ne 15, 3) := by decide +kernel
theorem dL_slews_334 : decode cL_slews 334 = .ok (.aload 5, 2) := by decide +kernel
theorem dL_slews_336 : decode cL_slews 336 = .ok (.invokevirtual 161, 3) := by decide +kernel
theorem dL_slews_339 : decode cL_slews 339 = .ok (.ifCond .ne 7, 3) := by decide +kernel
theorem dL_slews_342 : decode cL_slews 342 = .ok (.iconst 1, 1) := by decide +kernel
theorem dL_slews_343 : decode cL_slews 343 = .ok (.goto 4, 3) := by decide +kernel
theorem dL_slews_346 : decode cL_slews 346 = .ok (.iconst 0, 1) := by decide +kernel
theorem dL_slews_347 : decode cL_slews 347 = .ok (.ireturn, 1) := by decide +kernel
theorem dL_law_0 : decode cL_law 0 = .ok (.new 8, 3) := by decide +kernel
theorem dL_law_3 : decode cL_law 3 = .ok (.dup, 1) := by decide +kernel
theorem dL_law_4 : decode cL_law 4 = .ok (.invokespecial 190, 3) := by decide +kernel
theorem dL_law_7 : decode cL_law 7 = .ok (.astore_n 1, 1) := by decide +kernel
theorem dL_law_8 : decode cL_law 8 = .ok (.new 8, 3) := by decide +kernel
theorem dL_law_11 : decode cL_law 11 = .ok (.dup, 1) := by decide +kernel
theorem dL_law_12 : decode cL_law 12 = .ok (.invokespecial 190, 3) := by decide +kernel
theorem dL_law_15 : decode cL_law 15 = .ok (.astore_n 2, 1) := by decide +kernel
theorem dL_law_16 : decode cL_law 16 = .ok (.aload_n 0, 1) := by decide +kernel
theorem dL_law_17 : decode cL_law 17 = .ok (.iconst 0, 1) := by decide +kernel
theorem dL_law_18 : decode cL_law 18 = .ok (.invokestatic 194, 3) := by decide +kernel
theorem dL_law_21 : decode cL_law 21 = .ok (.istore_n 3, 1) := by decide +kernel
theorem dL_law_22 : decode cL_law 22 = .ok (.bipush 8, 2) := by decide +kernel
theorem dL_law_24 : decode cL_law 24 = .ok (.iload_n 3, 1) := by decide +kernel
theorem dL_law_25 : decode cL_law 25 = .ok (.bipush 33, 2) := by decide +kernel
theorem dL_law_27 : decode cL_law 27 = .ok (.irem, 1) := by decide +kernel
theorem dL_law_28 : decode cL_law 28 = .ok (.iadd, 1) := by decide +kernel
theorem dL_law_29 : decode cL_law 29 = .ok (.istore 4, 2) := by decide +kernel
theorem dL_law_31 : decode cL_law 31 = .ok (.iload_n 3, 1) := by decide +kernel
theorem dL_law_32 : decode cL_law 32 = .ok (.bipush 33, 2) := by decide +kernel
theorem dL_law_34 : decode cL_law 34 = .ok (.idiv, 1) := by decide +kernel
theorem dL_law_35 : decode cL_law 35 = .ok (.ldc 198, 2) := by decide +kernel
theorem dL_law_37 : decode cL_law 37 = .ok (.irem, 1) := by decide +kernel
theorem dL_law_38 : decode cL_law 38 = .ok (.ldc 199, 2) := by decide +kernel
theorem dL_law_40 : decode cL_law 40 = .ok (.isub, 1) := by decide +kernel
theorem dL_law_41 : decode cL_law 41 = .ok (.istore 5, 2) := by decide +kernel
theorem dL_law_43 : decode cL_law 43 = .ok (.aload_n 1, 1) := by decide +kernel
theorem dL_law_44 : decode cL_law 44 = .ok (.iload 5, 2) := by decide +kernel
theorem dL_law_46 : decode cL_law 46 = .ok (.invokestatic 87, 3) := by decide +kernel
theorem dL_law_49 : decode cL_law 49 = .ok (.ifCond .ne 16, 3) := by decide +kernel
theorem dL_law_52 : decode cL_law 52 = .ok (.aload_n 2, 1) := by decide +kernel
theorem dL_law_53 : decode cL_law 53 = .ok (.iload 5, 2) := by decide +kernel
theorem dL_law_55 : decode cL_law 55 = .ok (.invokestatic 87, 3) := by decide +kernel
theorem dL_law_58 : decode cL_law 58 = .ok (.ifCond .ne 7, 3) := by decide +kernel
theorem dL_law_61 : decode cL_law 61 = .ok (.iconst 1, 1) := by decide +kernel
theorem dL_law_62 : decode cL_law 62 = .ok (.goto 4, 3) := by decide +kernel
theorem dL_law_65 : decode cL_law 65 = .ok (.iconst 0, 1) := by decide +kernel
theorem dL_law_66 : decode cL_law 66 = .ok (.istore 6, 2) := by decide +kernel
theorem dL_law_68 : decode cL_law 68 = .ok (.iconst 0, 1) := by decide +kernel
theorem dL_law_69 : decode cL_law 69 = .ok (.istore 7, 2) := by decide +kernel
theorem dL_law_71 : decode cL_law 71 = .ok (.iload 7, 2) := by decide +kernel
theorem dL_law_73 : decode cL_law 73 = .ok (.iload 4, 2) := by decide +kernel
theorem dL_law_75 : decode cL_law 75 = .ok (.if_icmp .ge 114, 3) := by decide +kernel
theorem dL_law_78 : decode cL_law 78 = .ok (.iload 6, 2) := by decide +kernel
theorem dL_law_80 : decode cL_law 80 = .ok (.ifCond .eq 109, 3) := by decide +kernel
theorem dL_law_83 : decode cL_law 83 = .ok (.aload_n 0, 1) := by decide +kernel
theorem dL_law_84 : decode cL_law 84 = .ok (.iconst 1, 1) := by decide +kernel
theorem dL_law_85 : decode cL_law 85 = .ok (.iload 7, 2) := by decide +kernel
theorem dL_law_87 : decode cL_law 87 = .ok (.iadd, 1) := by decide +kernel
theorem dL_law_88 : decode cL_law 88 = .ok (.invokestatic 194, 3) := by decide +kernel
theorem dL_law_91 : decode cL_law 91 = .ok (.istore 8, 2) := by decide +kernel
theorem dL_law_93 : decode cL_law 93 = .ok (.aload_n 2, 1) := by decide +kernel
theorem dL_law_94 : decode cL_law 94 = .ok (.invokevirtual 152, 3) := by decide +kernel
theorem dL_law_97 : decode cL_law 97 = .ok (.lstore 9, 2) := by decide +kernel
theorem dL_law_99 : decode cL_law 99 = .ok (.aload_n 2, 1) := by decide +kernel
theorem dL_law_100 : decode cL_law 100 = .ok (.invokevirtual 155, 3) := by decide +kernel
theorem dL_law_103 : decode cL_law 103 = .ok (.lstore 11, 2) := by decide +kernel
theorem dL_law_105 : decode cL_law 105 = .ok (.aload_n 2, 1) := by decide +kernel
theorem dL_law_106 : decode cL_law 106 = .ok (.iload 8, 2) := by decide +kernel
theorem dL_law_108 : decode cL_law 108 = .ok (.sipush 9973, 3) := by decide +kernel
theorem dL_law_111 : decode cL_law 111 = .ok (.irem, 1) := by decide +kernel
theorem dL_law_112 : decode cL_law 112 = .ok (.invokestatic 200, 3) := by decide +kernel
theorem dL_law_115 : decode cL_law 115 = .ok (.ifCond .eq 65, 3) := by decide +kernel
theorem dL_law_118 : decode cL_law 118 = .ok (.aload_n 1, 1) := by decide +kernel
theorem dL_law_119 : decode cL_law 119 = .ok (.aload_n 2, 1) := by decide +kernel
theorem dL_law_120 : decode cL_law 120 = .ok (.iload 8, 2) := by decide +kernel
theorem dL_law_122 : decode cL_law 122 = .ok (.invokestatic 204, 3) := by decide +kernel
theorem dL_law_125 : decode cL_law 125 = .ok (.ifCond .eq 55, 3) := by decide +kernel
theorem dL_law_128 : decode cL_law 128 = .ok (.aload_n 2, 1) := by decide +kernel
theorem dL_law_129 : decode cL_law 129 = .ok (.iload 8, 2) := by decide +kernel
theorem dL_law_131 : decode cL_law 131 = .ok (.sipush 499, 3) := by decide +kernel
theorem dL_law_134 : decode cL_law 134 = .ok (.irem, 1) := by decide +kernel
theorem dL_law_135 : decode cL_law 135 = .ok (.invokestatic 200, 3) := by decide +kernel
theorem dL_law_138 : decode cL_law 138 = .ok (.ifCond .eq 42, 3) := by decide +kernel
theorem dL_law_141 : decode cL_law 141 = .ok (.aload_n 1, 1) := by decide +kernel
theorem dL_law_142 : decode cL_law 142 = .ok (.aload_n 2, 1) := by decide +kernel
theorem dL_law_143 : decode cL_law 143 = .ok (.invokestatic 208, 3) := by decide +kernel
theorem dL_law_146 : decode cL_law 146 = .ok (.ifCond .eq 34, 3) := by decide +kernel
theorem dL_law_149 : decode cL_law 149 = .ok (.aload_n 2, 1) := by decide +kernel
theorem dL_law_150 : decode cL_law 150 = .ok (.invokestatic 212, 3) := by decide +kernel
theorem dL_law_153 : decode cL_law 153 = .ok (.ifCond .eq 27, 3) := by decide +kernel
theorem dL_law_156 : decode cL_law 156 = .ok (.aload_n 2, 1) := by decide +kernel
theorem dL_law_157 : decode cL_law 157 = .ok (.invokevirtual 152, 3) := by decide +kernel
theorem dL_law_160 : decode cL_law 160 = .ok (.lload 9, 2) := by decide +kernel
theorem dL_law_162 : decode cL_law 162 = .ok (.lcmp, 1) := by decide +kernel
theorem dL_law_163 : decode cL_law 163 = .ok (.ifCond .lt 17, 3) := by decide +kernel
theorem dL_law_166 : decode cL_law 166 = .ok (.aload_n 2, 1) := by decide +kernel
theorem dL_law_167 : decode cL_law 167 = .ok (.invokevirtual 155, 3) := by decide +kernel
theorem dL_law_170 : decode cL_law 170 = .ok (.lload 11, 2) := by decide +kernel
theorem dL_law_172 : decode cL_law 172 = .ok (.lcmp, 1) := by decide +kernel
theorem dL_law_173 : decode cL_law 173 = .ok (.ifCond .lt 7, 3) := by decide +kernel
theorem dL_law_176 : decode cL_law 176 = .ok (.iconst 1, 1) := by decide +kernel
theorem dL_law_177 : decode cL_law 177 = .ok (.goto 4, 3) := by decide +kernel
theorem dL_law_180 : decode cL_law 180 = .ok (.iconst 0, 1) := by decide +kernel
theorem dL_law_181 : decode cL_law 181 = .ok (.istore 6, 2) := by decide +kernel
theorem dL_law_183 : decode cL_law 183 = .ok (.iinc 7 1, 3) := by decide +kernel
theorem dL_law_186 : decode cL_law 186 = .ok (.goto (-115), 3) := by decide +kernel
theorem dL_law_189 : decode cL_law 189 = .ok (.iload 6, 2) := by decide +kernel
theorem dL_law_191 : decode cL_law 191 = .ok (.ifCond .eq 56, 3) := by decide +kernel
theorem dL_law_194 : decode cL_law 194 = .ok (.iload_n 3, 1) := by decide +kernel
theorem dL_law_195 : decode cL_law 195 = .ok (.ldc 186, 2) := by decide +kernel
theorem dL_law_197 : decode cL_law 197 = .ok (.irem, 1) := by decide +kernel
theorem dL_law_198 : decode cL_law 198 = .ok (.ldc 187, 2) := by decide +kernel
theorem dL_law_200 : decode cL_law 200 = .ok (.isub, 1) := by decide +kernel
theorem dL_law_201 : decode cL_law 201 = .ok (.iload_n 3, 1) := by decide +kernel
theorem dL_law_202 : decode cL_law 202 = .ok (.bipush 7, 2) := by decide +kernel
theorem dL_law_204 : decode cL_law 204 = .ok (.idiv, 1) := by decide +kernel
theorem dL_law_205 : decode cL_law 205 = .ok (.sipush 601, 3) := by decide +kernel
theorem dL_law_208 : decode cL_law 208 = .ok (.irem, 1) := by decide +kernel
theorem dL_law_209 : decode cL_law 209 = .ok (.sipush 300, 3) := by decide +kernel
theorem dL_law_212 : decode cL_law 212 = .ok (.isub, 1) := by decide +kernel
theorem dL_law_213 : decode cL_law 213 = .ok (.iload_n 3, 1) := by decide +kernel
theorem dL_law_214 : decode cL_law 214 = .ok (.bipush 11, 2) := by decide +kernel
theorem dL_law_216 : decode cL_law 216 = .ok (.idiv, 1) := by decide +kernel
theorem dL_law_217 : decode cL_law 217 = .ok (.ldc 186, 2) := by decide +kernel
theorem dL_law_219 : decode cL_law 219 = .ok (.irem, 1) := by decide +kernel
theorem dL_law_220 : decode cL_law 220 = .ok (.ldc 187, 2) := by decide +kernel
theorem dL_law_222 : decode cL_law 222 = .ok (.isub, 1) := by decide +kernel
theorem dL_law_223 : decode cL_law 223 = .ok (.iload_n 3, 1) := by decide +kernel
theorem dL_law_224 : decode cL_law 224 = .ok (.bipush 13, 2) := by decide +kernel
theorem dL_law_226 : decode cL_law 226 = .ok (.idiv, 1) := by decide +kernel
theorem dL_law_227 : decode cL_law 227 = .ok (.ldc 188, 2) := by decide +kernel
theorem dL_law_229 : decode cL_law 229 = .ok (.irem, 1) := by decide +kernel
theorem dL_law_230 : decode cL_law 230 = .ok (.iload_n 3, 1) := by decide +kernel
theorem dL_law_231 : decode cL_law 231 = .ok (.bipush 17, 2) := by decide +kernel
theorem dL_law_233 : decode cL_law 233 = .ok (.idiv, 1) := by decide +kernel
theorem dL_law_234 : decode cL_law 234 = .ok (.ldc 188, 2) := by decide +kernel
theorem dL_law_236 : decode cL_law 236 = .ok (.irem, 1) := by decide +kernel
theorem dL_law_237 : decode cL_law 237 = .ok (.invokestatic 216, 3) := by decide +kernel
theorem dL_law_240 : decode cL_law 240 = .ok (.ifCond .eq 7, 3) := by decide +kernel
theorem dL_law_243 : decode cL_law 243 = .ok (.iconst 1, 1) := by decide +kernel
theorem dL_law_244 : decode cL_law 244 = .ok (.goto 4, 3) := by decide +kernel
theorem dL_law_247 : decode cL_law 247 = .ok (.iconst 0, 1) := by decide +kernel
theorem dL_law_248 : decode cL_law 248 = .ok (.ireturn, 1) := by decide +kernel
