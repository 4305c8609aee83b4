theorem dL_cell_0 : decode cL_cell 0 = .ok (.iload_n 1, 1) := by decide +kernel
theorem dL_cell_1 : decode cL_cell 1 = .ok (.aload_n 0, 1) := by decide +kernel
theorem dL_cell_2 : decode cL_cell 2 = .ok (.arraylength, 1) := by decide +kernel
theorem dL_cell_3 : decode cL_cell 3 = .ok (.if_icmp .ge 9, 3) := by decide +kernel
theorem dL_cell_6 : decode cL_cell 6 = .ok (.aload_n 0, 1) := by decide +kernel
theorem dL_cell_7 : decode cL_cell 7 = .ok (.iload_n 1, 1) := by decide +kernel
theorem dL_cell_8 : decode cL_cell 8 = .ok (.iaload, 1) := by decide +kernel
theorem dL_cell_9 : decode cL_cell 9 = .ok (.goto 9, 3) := by decide +kernel
theorem dL_cell_12 : decode cL_cell 12 = .ok (.ldc 7, 2) := by decide +kernel
theorem dL_cell_14 : decode cL_cell 14 = .ok (.iload_n 1, 1) := by decide +kernel
theorem dL_cell_15 : decode cL_cell 15 = .ok (.iconst 3, 1) := by decide +kernel
theorem dL_cell_16 : decode cL_cell 16 = .ok (.iadd, 1) := by decide +kernel
theorem dL_cell_17 : decode cL_cell 17 = .ok (.imul, 1) := by decide +kernel
theorem dL_cell_18 : decode cL_cell 18 = .ok (.ireturn, 1) := by decide +kernel
theorem dL_up_0 : decode cL_up 0 = .ok (.iload_n 0, 1) := by decide +kernel
theorem dL_up_1 : decode cL_up 1 = .ok (.ldc 8, 2) := by decide +kernel
theorem dL_up_3 : decode cL_up 3 = .ok (.iand, 1) := by decide +kernel
theorem dL_up_4 : decode cL_up 4 = .ok (.iload_n 1, 1) := by decide +kernel
theorem dL_up_5 : decode cL_up 5 = .ok (.irem, 1) := by decide +kernel
theorem dL_up_6 : decode cL_up 6 = .ok (.ireturn, 1) := by decide +kernel
theorem dL_fails_0 : decode cL_fails 0 = .ok (.aload_n 0, 1) := by decide +kernel
theorem dL_fails_1 : decode cL_fails 1 = .ok (.invokevirtual 9, 3) := by decide +kernel
theorem dL_fails_4 : decode cL_fails 4 = .ok (.lstore 4, 2) := by decide +kernel
theorem dL_fails_6 : decode cL_fails 6 = .ok (.aload_n 0, 1) := by decide +kernel
theorem dL_fails_7 : decode cL_fails 7 = .ok (.iconst 0, 1) := by decide +kernel
theorem dL_fails_8 : decode cL_fails 8 = .ok (.iconst 2, 1) := by decide +kernel
theorem dL_fails_9 : decode cL_fails 9 = .ok (.iconst 0, 1) := by decide +kernel
theorem dL_fails_10 : decode cL_fails 10 = .ok (.iconst 0, 1) := by decide +kernel
theorem dL_fails_11 : decode cL_fails 11 = .ok (.iconst 0, 1) := by decide +kernel
theorem dL_fails_12 : decode cL_fails 12 = .ok (.invokevirtual 15, 3) := by decide +kernel
theorem dL_fails_15 : decode cL_fails 15 = .ok (.sipush (-1001), 3) := by decide +kernel
theorem dL_fails_18 : decode cL_fails 18 = .ok (.if_icmp .ne 200, 3) := by decide +kernel
theorem dL_fails_21 : decode cL_fails 21 = .ok (.aload_n 0, 1) := by decide +kernel
theorem dL_fails_22 : decode cL_fails 22 = .ok (.bipush 10, 2) := by decide +kernel
theorem dL_fails_24 : decode cL_fails 24 = .ok (.iconst 2, 1) := by decide +kernel
theorem dL_fails_25 : decode cL_fails 25 = .ok (.iconst 0, 1) := by decide +kernel
theorem dL_fails_26 : decode cL_fails 26 = .ok (.iconst 0, 1) := by decide +kernel
theorem dL_fails_27 : decode cL_fails 27 = .ok (.iconst 0, 1) := by decide +kernel
theorem dL_fails_28 : decode cL_fails 28 = .ok (.invokevirtual 15, 3) := by decide +kernel
theorem dL_fails_31 : decode cL_fails 31 = .ok (.sipush (-1001), 3) := by decide +kernel
theorem dL_fails_34 : decode cL_fails 34 = .ok (.if_icmp .ne 184, 3) := by decide +kernel
theorem dL_fails_37 : decode cL_fails 37 = .ok (.aload_n 0, 1) := by decide +kernel
theorem dL_fails_38 : decode cL_fails 38 = .ok (.iconst 1, 1) := by decide +kernel
theorem dL_fails_39 : decode cL_fails 39 = .ok (.bipush 6, 2) := by decide +kernel
theorem dL_fails_41 : decode cL_fails 41 = .ok (.iconst 0, 1) := by decide +kernel
theorem dL_fails_42 : decode cL_fails 42 = .ok (.iconst 0, 1) := by decide +kernel
theorem dL_fails_43 : decode cL_fails 43 = .ok (.iconst 0, 1) := by decide +kernel
theorem dL_fails_44 : decode cL_fails 44 = .ok (.invokevirtual 15, 3) := by decide +kernel
theorem dL_fails_47 : decode cL_fails 47 = .ok (.sipush (-1001), 3) := by decide +kernel
theorem dL_fails_50 : decode cL_fails 50 = .ok (.if_icmp .ne 168, 3) := by decide +kernel
theorem dL_fails_53 : decode cL_fails 53 = .ok (.aload_n 0, 1) := by decide +kernel
theorem dL_fails_54 : decode cL_fails 54 = .ok (.iconst 1, 1) := by decide +kernel
theorem dL_fails_55 : decode cL_fails 55 = .ok (.iconst 3, 1) := by decide +kernel
theorem dL_fails_56 : decode cL_fails 56 = .ok (.iconst 3, 1) := by decide +kernel
theorem dL_fails_57 : decode cL_fails 57 = .ok (.iconst 0, 1) := by decide +kernel
theorem dL_fails_58 : decode cL_fails 58 = .ok (.iconst 0, 1) := by decide +kernel
theorem dL_fails_59 : decode cL_fails 59 = .ok (.invokevirtual 15, 3) := by decide +kernel
theorem dL_fails_62 : decode cL_fails 62 = .ok (.sipush (-1001), 3) := by decide +kernel
theorem dL_fails_65 : decode cL_fails 65 = .ok (.if_icmp .ne 153, 3) := by decide +kernel
theorem dL_fails_68 : decode cL_fails 68 = .ok (.aload_n 0, 1) := by decide +kernel
theorem dL_fails_69 : decode cL_fails 69 = .ok (.iconst 1, 1) := by decide +kernel
theorem dL_fails_70 : decode cL_fails 70 = .ok (.iconst 3, 1) := by decide +kernel
theorem dL_fails_71 : decode cL_fails 71 = .ok (.iconst 0, 1) := by decide +kernel
theorem dL_fails_72 : decode cL_fails 72 = .ok (.bipush 8, 2) := by decide +kernel
theorem dL_fails_74 : decode cL_fails 74 = .ok (.iconst 0, 1) := by decide +kernel
theorem dL_fails_75 : decode cL_fails 75 = .ok (.invokevirtual 15, 3) := by decide +kernel
theorem dL_fails_78 : decode cL_fails 78 = .ok (.sipush (-1001), 3) := by decide +kernel
theorem dL_fails_81 : decode cL_fails 81 = .ok (.if_icmp .ne 137, 3) := by decide +kernel
theorem dL_fails_84 : decode cL_fails 84 = .ok (.aload_n 0, 1) := by decide +kernel
theorem dL_fails_85 : decode cL_fails 85 = .ok (.iconst 1, 1) := by decide +kernel
theorem dL_fails_86 : decode cL_fails 86 = .ok (.iconst 3, 1) := by decide +kernel
theorem dL_fails_87 : decode cL_fails 87 = .ok (.iconst 0, 1) := by decide +kernel
theorem dL_fails_88 : decode cL_fails 88 = .ok (.iconst 0, 1) := by decide +kernel
theorem dL_fails_89 : decode cL_fails 89 = .ok (.bipush 6, 2) := by decide +kernel
theorem dL_fails_91 : decode cL_fails 91 = .ok (.invokevirtual 15, 3) := by decide +kernel
theorem dL_fails_94 : decode cL_fails 94 = .ok (.sipush (-1001), 3) := by decide +kernel
theorem dL_fails_97 : decode cL_fails 97 = .ok (.if_icmp .ne 121, 3) := by decide +kernel
theorem dL_fails_100 : decode cL_fails 100 = .ok (.aload_n 0, 1) := by decide +kernel
theorem dL_fails_101 : decode cL_fails 101 = .ok (.iload_n 1, 1) := by decide +kernel
theorem dL_fails_102 : decode cL_fails 102 = .ok (.invokevirtual 21, 3) := by decide +kernel
theorem dL_fails_105 : decode cL_fails 105 = .ok (.sipush (-1001), 3) := by decide +kernel
theorem dL_fails_108 : decode cL_fails 108 = .ok (.if_icmp .ne 110, 3) := by decide +kernel
theorem dL_fails_111 : decode cL_fails 111 = .ok (.aload_n 0, 1) := by decide +kernel
theorem dL_fails_112 : decode cL_fails 112 = .ok (.iload_n 1, 1) := by decide +kernel
theorem dL_fails_113 : decode cL_fails 113 = .ok (.iconst 0, 1) := by decide +kernel
theorem dL_fails_114 : decode cL_fails 114 = .ok (.iconst 1, 1) := by decide +kernel
theorem dL_fails_115 : decode cL_fails 115 = .ok (.invokevirtual 25, 3) := by decide +kernel
theorem dL_fails_118 : decode cL_fails 118 = .ok (.sipush (-1001), 3) := by decide +kernel
theorem dL_fails_121 : decode cL_fails 121 = .ok (.if_icmp .ne 97, 3) := by decide +kernel
theorem dL_fails_124 : decode cL_fails 124 = .ok (.aload_n 0, 1) := by decide +kernel
theorem dL_fails_125 : decode cL_fails 125 = .ok (.iconst 0, 1) := by decide +kernel
theorem dL_fails_126 : decode cL_fails 126 = .ok (.iconst 4, 1) := by decide +kernel
theorem dL_fails_127 : decode cL_fails 127 = .ok (.iconst 1, 1) := by decide +kernel
theorem dL_fails_128 : decode cL_fails 128 = .ok (.invokevirtual 25, 3) := by decide +kernel
theorem dL_fails_131 : decode cL_fails 131 = .ok (.sipush (-1001), 3) := by decide +kernel
theorem dL_fails_134 : decode cL_fails 134 = .ok (.if_icmp .ne 84, 3) := by decide +kernel
theorem dL_fails_137 : decode cL_fails 137 = .ok (.aload_n 0, 1) := by decide +kernel
theorem dL_fails_138 : decode cL_fails 138 = .ok (.iconst 0, 1) := by decide +kernel
theorem dL_fails_139 : decode cL_fails 139 = .ok (.iconst 0, 1) := by decide +kernel
theorem dL_fails_140 : decode cL_fails 140 = .ok (.bipush 10, 2) := by decide +kernel
theorem dL_fails_142 : decode cL_fails 142 = .ok (.invokevirtual 25, 3) := by decide +kernel
theorem dL_fails_145 : decode cL_fails 145 = .ok (.sipush (-1001), 3) := by decide +kernel
theorem dL_fails_148 : decode cL_fails 148 = .ok (.if_icmp .ne 70, 3) := by decide +kernel
theorem dL_fails_151 : decode cL_fails 151 = .ok (.aload_n 0, 1) := by decide +kernel
theorem dL_fails_152 : decode cL_fails 152 = .ok (.iload_n 1, 1) := by decide +kernel
theorem dL_fails_153 : decode cL_fails 153 = .ok (.iconst 0, 1) := by decide +kernel
theorem dL_fails_154 : decode cL_fails 154 = .ok (.invokevirtual 29, 3) := by decide +kernel
theorem dL_fails_157 : decode cL_fails 157 = .ok (.sipush (-1001), 3) := by decide +kernel
theorem dL_fails_160 : decode cL_fails 160 = .ok (.if_icmp .ne 58, 3) := by decide +kernel
theorem dL_fails_163 : decode cL_fails 163 = .ok (.aload_n 0, 1) := by decide +kernel
theorem dL_fails_164 : decode cL_fails 164 = .ok (.iconst 0, 1) := by decide +kernel
theorem dL_fails_165 : decode cL_fails 165 = .ok (.iconst 5, 1) := by decide +kernel
theorem dL_fails_166 : decode cL_fails 166 = .ok (.invokevirtual 29, 3) := by decide +kernel
theorem dL_fails_169 : decode cL_fails 169 = .ok (.sipush (-1001), 3) := by decide +kernel
theorem dL_fails_172 : decode cL_fails 172 = .ok (.if_icmp .ne 46, 3) := by decide +kernel
theorem dL_fails_175 : decode cL_fails 175 = .ok (.aload_n 0, 1) := by decide +kernel
theorem dL_fails_176 : decode cL_fails 176 = .ok (.iload_n 2, 1) := by decide +kernel
theorem dL_fails_177 : decode cL_fails 177 = .ok (.iconst 0, 1) := by decide +kernel
theorem dL_fails_178 : decode cL_fails 178 = .ok (.iconst 0, 1) := by decide +kernel
theorem dL_fails_179 : decode cL_fails 179 = .ok (.invokevirtual 33, 3) := by decide +kernel
theorem dL_fails_182 : decode cL_fails 182 = .ok (.sipush (-1001), 3) := by decide +kernel
theorem dL_fails_185 : decode cL_fails 185 = .ok (.if_icmp .ne 33, 3) := by decide +kernel
theorem dL_fails_188 : decode cL_fails 188 = .ok (.aload_n 0, 1) := by decide +kernel
theorem dL_fails_189 : decode cL_fails 189 = .ok (.iconst 0, 1) := by decide +kernel
theorem dL_fails_190 : decode cL_fails 190 = .ok (.iload_n 1, 1) := by decide +kernel
theorem dL_fails_191 : decode cL_fails 191 = .ok (.iconst 0, 1) := by decide +kernel
theorem dL_fails_192 : decode cL_fails 192 = .ok (.invokevirtual 33, 3) := by decide +kernel
theorem dL_fails_195 : decode cL_fails 195 = .ok (.sipush (-1001), 3) := by decide +kernel
theorem dL_fails_198 : decode cL_fails 198 = .ok (.if_icmp .ne 20, 3) := by decide +kernel
theorem dL_fails_201 : decode cL_fails 201 = .ok (.aload_n 0, 1) := by decide +kernel
theorem dL_fails_202 : decode cL_fails 202 = .ok (.iconst 0, 1) := by decide +kernel
theorem dL_fails_203 : decode cL_fails 203 = .ok (.iconst 0, 1) := by decide +kernel
theorem dL_fails_204 : decode cL_fails 204 = .ok (.iconst 4, 1) := by decide +kernel
theorem dL_fails_205 : decode cL_fails 205 = .ok (.invokevirtual 33, 3) := by decide +kernel
theorem dL_fails_208 : decode cL_fails 208 = .ok (.sipush (-1001), 3) := by decide +kernel
theorem dL_fails_211 : decode cL_fails 211 = .ok (.if_icmp .ne 7, 3) := by decide +kernel
theorem dL_fails_214 : decode cL_fails 214 = .ok (.iconst 1, 1) := by decide +kernel
theorem dL_fails_215 : decode cL_fails 215 = .ok (.goto 4, 3) := by decide +kernel
theorem dL_fails_218 : decode cL_fails 218 = .ok (.iconst 0, 1) := by decide +kernel
theorem dL_fails_219 : decode cL_fails 219 = .ok (.istore 6, 2) := by decide +kernel
theorem dL_fails_221 : decode cL_fails 221 = .ok (.iload 6, 2) := by decide +kernel
theorem dL_fails_223 : decode cL_fails 223 = .ok (.ifCond .eq 187, 3) := by decide +kernel
theorem dL_fails_226 : decode cL_fails 226 = .ok (.aload_n 0, 1) := by decide +kernel
theorem dL_fails_227 : decode cL_fails 227 = .ok (.iconst 0, 1) := by decide +kernel
theorem dL_fails_228 : decode cL_fails 228 = .ok (.iload_n 1, 1) := by decide +kernel
theorem dL_fails_229 : decode cL_fails 229 = .ok (.invokevirtual 36, 3) := by decide +kernel
theorem dL_fails_232 : decode cL_fails 232 = .ok (.sipush (-1001), 3) := by decide +kernel
theorem dL_fails_235 : decode cL_fails 235 = .ok (.if_icmp .ne 175, 3) := by decide +kernel
theorem dL_fails_238 : decode cL_fails 238 = .ok (.aload_n 0, 1) := by decide +kernel
theorem dL_fails_239 : decode cL_fails 239 = .ok (.iconst (-1), 1) := by decide +kernel
theorem dL_fails_240 : decode cL_fails 240 = .ok (.iconst 0, 1) := by decide +kernel
theorem dL_fails_241 : decode cL_fails 241 = .ok (.invokevirtual 36, 3) := by decide +kernel
theorem dL_fails_244 : decode cL_fails 244 = .ok (.sipush (-1001), 3) := by decide +kernel
theorem dL_fails_247 : decode cL_fails 247 = .ok (.if_icmp .ne 163, 3) := by decide +kernel
theorem dL_fails_250 : decode cL_fails 250 = .ok (.aload_n 0, 1) := by decide +kernel
theorem dL_fails_251 : decode cL_fails 251 = .ok (.iload_n 2, 1) := by decide +kernel
theorem dL_fails_252 : decode cL_fails 252 = .ok (.iconst 0, 1) := by decide +kernel
theorem dL_fails_253 : decode cL_fails 253 = .ok (.iconst 0, 1) := by decide +kernel
theorem dL_fails_254 : decode cL_fails 254 = .ok (.invokevirtual 39, 3) := by decide +kernel
theorem dL_fails_257 : decode cL_fails 257 = .ok (.sipush (-1001), 3) := by decide +kernel
theorem dL_fails_260 : decode cL_fails 260 = .ok (.if_icmp .ne 150, 3) := by decide +kernel
theorem dL_fails_263 : decode cL_fails 263 = .ok (.aload_n 0, 1) := by decide +kernel
theorem dL_fails_264 : decode cL_fails 264 = .ok (.iconst 0, 1) := by decide +kernel
theorem dL_fails_265 : decode cL_fails 265 = .ok (.iconst 0, 1) := by decide +kernel
theorem dL_fails_266 : decode cL_fails 266 = .ok (.iconst 5, 1) := by decide +kernel
theorem dL_fails_267 : decode cL_fails 267 = .ok (.invokevirtual 39, 3) := by decide +kernel
theorem dL_fails_270 : decode cL_fails 270 = .ok (.sipush (-1001), 3) := by decide +kernel
theorem dL_fails_273 : decode cL_fails 273 = .ok (.if_icmp .ne 137, 3) := by decide +kernel
theorem dL_fails_276 : decode cL_fails 276 = .ok (.aload_n 0, 1) := by decide +kernel
theorem dL_fails_277 : decode cL_fails 277 = .ok (.iconst 0, 1) := by decide +kernel
theorem dL_fails_278 : decode cL_fails 278 = .ok (.iload_n 2, 1) := by decide +kernel
theorem dL_fails_279 : decode cL_fails 279 = .ok (.iconst 0, 1) := by decide +kernel
theorem dL_fails_280 : decode cL_fails 280 = .ok (.invokevirtual 42, 3) := by decide +kernel
theorem dL_fails_283 : decode cL_fails 283 = .ok (.sipush (-1001), 3) := by decide +kernel
theorem dL_fails_286 : decode cL_fails 286 = .ok (.if_icmp .ne 124, 3) := by decide +kernel
theorem dL_fails_289 : decode cL_fails 289 = .ok (.aload_n 0, 1) := by decide +kernel
theorem dL_fails_290 : decode cL_fails 290 = .ok (.iconst 0, 1) := by decide +kernel
theorem dL_fails_291 : decode cL_fails 291 = .ok (.iconst 0, 1) := by decide +kernel
theorem dL_fails_292 : decode cL_fails 292 = .ok (.iconst 3, 1) := by decide +kernel
theorem dL_fails_293 : decode cL_fails 293 = .ok (.invokevirtual 42, 3) := by decide +kernel
theorem dL_fails_296 : decode cL_fails 296 = .ok (.sipush (-1001), 3) := by decide +kernel
theorem dL_fails_299 : decode cL_fails 299 = .ok (.if_icmp .ne 111, 3) := by decide +kernel
theorem dL_fails_302 : decode cL_fails 302 = .ok (.aload_n 0, 1) := by decide +kernel
theorem dL_fails_303 : decode cL_fails 303 = .ok (.iconst 1, 1) := by decide +kernel
theorem dL_fails_304 : decode cL_fails 304 = .ok (.iconst 0, 1) := by decide +kernel
theorem dL_fails_305 : decode cL_fails 305 = .ok (.invokevirtual 45, 3) := by decide +kernel
theorem dL_fails_308 : decode cL_fails 308 = .ok (.ldc2_w 49, 3) := by decide +kernel
theorem dL_fails_311 : decode cL_fails 311 = .ok (.lcmp, 1) := by decide +kernel
theorem dL_fails_312 : decode cL_fails 312 = .ok (.ifCond .ne 98, 3) := by decide +kernel
theorem dL_fails_315 : decode cL_fails 315 = .ok (.aload_n 0, 1) := by decide +kernel
theorem dL_fails_316 : decode cL_fails 316 = .ok (.iconst 1, 1) := by decide +kernel
theorem dL_fails_317 : decode cL_fails 317 = .ok (.bipush 41, 2) := by decide +kernel
theorem dL_fails_319 : decode cL_fails 319 = .ok (.invokevirtual 45, 3) := by decide +kernel
theorem dL_fails_322 : decode cL_fails 322 = .ok (.ldc2_w 49, 3) := by decide +kernel
theorem dL_fails_325 : decode cL_fails 325 = .ok (.lcmp, 1) := by decide +kernel
theorem dL_fails_326 : decode cL_fails 326 = .ok (.ifCond .ne 84, 3) := by decide +kernel
theorem dL_fails_329 : decode cL_fails 329 = .ok (.aload_n 0, 1) := by decide +kernel
theorem dL_fails_330 : decode cL_fails 330 = .ok (.bipush 8, 2) := by decide +kernel
theorem dL_fails_332 : decode cL_fails 332 = .ok (.invokevirtual 51, 3) := by decide +kernel
theorem dL_fails_335 : decode cL_fails 335 = .ok (.sipush (-1001), 3) := by decide +kernel
theorem dL_fails_338 : decode cL_fails 338 = .ok (.if_icmp .ne 72, 3) := by decide +kernel
theorem dL_fails_341 : decode cL_fails 341 = .ok (.aload_n 0, 1) := by decide +kernel
theorem dL_fails_342 : decode cL_fails 342 = .ok (.bipush 61, 2) := by decide +kernel
theorem dL_fails_344 : decode cL_fails 344 = .ok (.invokevirtual 51, 3) := by decide +kernel
theorem dL_fails_347 : decode cL_fails 347 = .ok (.sipush (-1001), 3) := by decide +kernel
theorem dL_fails_350 : decode cL_fails 350 = .ok (.if_icmp .ne 60, 3) := by decide +kernel
theorem dL_fails_353 : decode cL_fails 353 = .ok (.aload_n 0, 1) := by decide +kernel
theorem dL_fails_354 : decode cL_fails 354 = .ok (.iload_n 2, 1) := by decide +kernel
theorem dL_fails_355 : decode cL_fails 355 = .ok (.invokevirtual 54, 3) := by decide +kernel
theorem dL_fails_358 : decode cL_fails 358 = .ok (.sipush (-1001), 3) := by decide +kernel
theorem dL_fails_361 : decode cL_fails 361 = .ok (.if_icmp .ne 49, 3) := by decide +kernel
theorem dL_fails_364 : decode cL_fails 364 = .ok (.aload_n 0, 1) := by decide +kernel
theorem dL_fails_365 : decode cL_fails 365 = .ok (.iconst 0, 1) := by decide +kernel
theorem dL_fails_366 : decode cL_fails 366 = .ok (.aload_n 0, 1) := by decide +kernel
theorem dL_fails_367 : decode cL_fails 367 = .ok (.iconst 0, 1) := by decide +kernel
theorem dL_fails_368 : decode cL_fails 368 = .ok (.invokevirtual 54, 3) := by decide +kernel
theorem dL_fails_371 : decode cL_fails 371 = .ok (.ifCond .ge 7, 3) := by decide +kernel
theorem dL_fails_374 : decode cL_fails 374 = .ok (.iconst 0, 1) := by decide +kernel
theorem dL_fails_375 : decode cL_fails 375 = .ok (.goto 8, 3) := by decide +kernel
theorem dL_fails_378 : decode cL_fails 378 = .ok (.aload_n 0, 1) := by decide +kernel
theorem dL_fails_379 : decode cL_fails 379 = .ok (.iconst 0, 1) := by decide +kernel
theorem dL_fails_380 : decode cL_fails 380 = .ok (.invokevirtual 54, 3) := by decide +kernel
theorem dL_fails_383 : decode cL_fails 383 = .ok (.iconst 0, 1) := by decide +kernel
theorem dL_fails_384 : decode cL_fails 384 = .ok (.invokevirtual 57, 3) := by decide +kernel
theorem dL_fails_387 : decode cL_fails 387 = .ok (.sipush (-1001), 3) := by decide +kernel
theorem dL_fails_390 : decode cL_fails 390 = .ok (.if_icmp .ne 20, 3) := by decide +kernel
theorem dL_fails_393 : decode cL_fails 393 = .ok (.aload_n 0, 1) := by decide +kernel
theorem dL_fails_394 : decode cL_fails 394 = .ok (.iconst 0, 1) := by decide +kernel
theorem dL_fails_395 : decode cL_fails 395 = .ok (.iconst 0, 1) := by decide +kernel
theorem dL_fails_396 : decode cL_fails 396 = .ok (.iconst 2, 1) := by decide +kernel
theorem dL_fails_397 : decode cL_fails 397 = .ok (.invokevirtual 57, 3) := by decide +kernel
theorem dL_fails_400 : decode cL_fails 400 = .ok (.sipush (-1001), 3) := by decide +kernel
theorem dL_fails_403 : decode cL_fails 403 = .ok (.if_icmp .ne 7, 3) := by decide +kernel
theorem dL_fails_406 : decode cL_fails 406 = .ok (.iconst 1, 1) := by decide +kernel
theorem dL_fails_407 : decode cL_fails 407 = .ok (.goto 4, 3) := by decide +kernel
theorem dL_fails_410 : decode cL_fails 410 = .ok (.iconst 0, 1) := by decide +kernel
theorem dL_fails_411 : decode cL_fails 411 = .ok (.istore 6, 2) := by decide +kernel
theorem dL_fails_413 : decode cL_fails 413 = .ok (.iload 6, 2) := by decide +kernel
theorem dL_fails_415 : decode cL_fails 415 = .ok (.ifCond .eq 176, 3) := by decide +kernel
theorem dL_fails_418 : decode cL_fails 418 = .ok (.aload_n 0, 1) := by decide +kernel
theorem dL_fails_419 : decode cL_fails 419 = .ok (.bipush 31, 2) := by decide +kernel
theorem dL_fails_421 : decode cL_fails 421 = .ok (.invokevirtual 60, 3) := by decide +kernel
theorem dL_fails_424 : decode cL_fails 424 = .ok (.sipush (-1001), 3) := by decide +kernel
theorem dL_fails_427 : decode cL_fails 427 = .ok (.if_icmp .ne 164, 3) := by decide +kernel
theorem dL_fails_430 : decode cL_fails 430 = .ok (.aload_n 0, 1) := by decide +kernel
theorem dL_fails_431 : decode cL_fails 431 = .ok (.iload_n 2, 1) := by decide +kernel
theorem dL_fails_432 : decode cL_fails 432 = .ok (.invokevirtual 63, 3) := by decide +kernel
theorem dL_fails_435 : decode cL_fails 435 = .ok (.sipush (-1001), 3) := by decide +kernel
theorem dL_fails_438 : decode cL_fails 438 = .ok (.if_icmp .ne 153, 3) := by decide +kernel
theorem dL_fails_441 : decode cL_fails 441 = .ok (.aload_n 0, 1) := by decide +kernel
theorem dL_fails_442 : decode cL_fails 442 = .ok (.iload_n 2, 1) := by decide +kernel
theorem dL_fails_443 : decode cL_fails 443 = .ok (.iconst 1, 1) := by decide +kernel
theorem dL_fails_444 : decode cL_fails 444 = .ok (.iconst 1, 1) := by decide +kernel
theorem dL_fails_445 : decode cL_fails 445 = .ok (.invokevirtual 66, 3) := by decide +kernel
theorem dL_fails_448 : decode cL_fails 448 = .ok (.sipush (-1001), 3) := by decide +kernel
theorem dL_fails_451 : decode cL_fails 451 = .ok (.if_icmp .ne 140, 3) := by decide +kernel
theorem dL_fails_454 : decode cL_fails 454 = .ok (.aload_n 0, 1) := by decide +kernel
theorem dL_fails_455 : decode cL_fails 455 = .ok (.iconst 0, 1) := by decide +kernel
theorem dL_fails_456 : decode cL_fails 456 = .ok (.iconst 1, 1) := by decide +kernel
theorem dL_fails_457 : decode cL_fails 457 = .ok (.bipush 11, 2) := by decide +kernel
theorem dL_fails_459 : decode cL_fails 459 = .ok (.invokevirtual 66, 3) := by decide +kernel
theorem dL_fails_462 : decode cL_fails 462 = .ok (.sipush (-1001), 3) := by decide +kernel
theorem dL_fails_465 : decode cL_fails 465 = .ok (.if_icmp .ne 126, 3) := by decide +kernel
theorem dL_fails_468 : decode cL_fails 468 = .ok (.aload_n 0, 1) := by decide +kernel
theorem dL_fails_469 : decode cL_fails 469 = .ok (.iload_n 3, 1) := by decide +kernel
theorem dL_fails_470 : decode cL_fails 470 = .ok (.iconst 0, 1) := by decide +kernel
theorem dL_fails_471 : decode cL_fails 471 = .ok (.invokevirtual 69, 3) := by decide +kernel
theorem dL_fails_474 : decode cL_fails 474 = .ok (.sipush (-1001), 3) := by decide +kernel
theorem dL_fails_477 : decode cL_fails 477 = .ok (.if_icmp .ne 114, 3) := by decide +kernel
theorem dL_fails_480 : decode cL_fails 480 = .ok (.aload_n 0, 1) := by decide +kernel
theorem dL_fails_481 : decode cL_fails 481 = .ok (.iconst 0, 1) := by decide +kernel
theorem dL_fails_482 : decode cL_fails 482 = .ok (.iconst 5, 1) := by decide +kernel
theorem dL_fails_483 : decode cL_fails 483 = .ok (.invokevirtual 69, 3) := by decide +kernel
theorem dL_fails_486 : decode cL_fails 486 = .ok (.sipush (-1001), 3) := by decide +kernel
theorem dL_fails_489 : decode cL_fails 489 = .ok (.if_icmp .ne 102, 3) := by decide +kernel
theorem dL_fails_492 : decode cL_fails 492 = .ok (.aload_n 0, 1) := by decide +kernel
theorem dL_fails_493 : decode cL_fails 493 = .ok (.iload_n 3, 1) := by decide +kernel
theorem dL_fails_494 : decode cL_fails 494 = .ok (.iconst 0, 1) := by decide +kernel
theorem dL_fails_495 : decode cL_fails 495 = .ok (.invokevirtual 72, 3) := by decide +kernel
theorem dL_fails_498 : decode cL_fails 498 = .ok (.sipush (-1001), 3) := by decide +kernel
theorem dL_fails_501 : decode cL_fails 501 = .ok (.if_icmp .ne 90, 3) := by decide +kernel
theorem dL_fails_504 : decode cL_fails 504 = .ok (.aload_n 0, 1) := by decide +kernel
theorem dL_fails_505 : decode cL_fails 505 = .ok (.iconst 0, 1) := by decide +kernel
theorem dL_fails_506 : decode cL_fails 506 = .ok (.iload_n 1, 1) := by decide +kernel
theorem dL_fails_507 : decode cL_fails 507 = .ok (.invokevirtual 72, 3) := by decide +kernel
theorem dL_fails_510 : decode cL_fails 510 = .ok (.sipush (-1001), 3) := by decide +kernel
theorem dL_fails_513 : decode cL_fails 513 = .ok (.if_icmp .ne 78, 3) := by decide +kernel
theorem dL_fails_516 : decode cL_fails 516 = .ok (.aload_n 0, 1) := by decide +kernel
theorem dL_fails_517 : decode cL_fails 517 = .ok (.iload_n 1, 1) := by decide +kernel
theorem dL_fails_518 : decode cL_fails 518 = .ok (.iconst 0, 1) := by decide +kernel
theorem dL_fails_519 : decode cL_fails 519 = .ok (.invokevirtual 75, 3) := by decide +kernel
theorem dL_fails_522 : decode cL_fails 522 = .ok (.sipush (-1001), 3) := by decide +kernel
theorem dL_fails_525 : decode cL_fails 525 = .ok (.if_icmp .ne 66, 3) := by decide +kernel
theorem dL_fails_528 : decode cL_fails 528 = .ok (.aload_n 0, 1) := by decide +kernel
theorem dL_fails_529 : decode cL_fails 529 = .ok (.iconst 0, 1) := by decide +kernel
theorem dL_fails_530 : decode cL_fails 530 = .ok (.iconst 4, 1) := by decide +kernel
theorem dL_fails_531 : decode cL_fails 531 = .ok (.invokevirtual 75, 3) := by decide +kernel
theorem dL_fails_534 : decode cL_fails 534 = .ok (.sipush (-1001), 3) := by decide +kernel
theorem dL_fails_537 : decode cL_fails 537 = .ok (.if_icmp .ne 54, 3) := by decide +kernel
theorem dL_fails_540 : decode cL_fails 540 = .ok (.aload_n 0, 1) := by decide +kernel
theorem dL_fails_541 : decode cL_fails 541 = .ok (.iload_n 1, 1) := by decide +kernel
theorem dL_fails_542 : decode cL_fails 542 = .ok (.invokevirtual 78, 3) := by decide +kernel
theorem dL_fails_545 : decode cL_fails 545 = .ok (.ldc 82, 2) := by decide +kernel
theorem dL_fails_547 : decode cL_fails 547 = .ok (.fcmp .l, 1) := by decide +kernel
theorem dL_fails_548 : decode cL_fails 548 = .ok (.ifCond .ne 43, 3) := by decide +kernel
theorem dL_fails_551 : decode cL_fails 551 = .ok (.aload_n 0, 1) := by decide +kernel
theorem dL_fails_552 : decode cL_fails 552 = .ok (.iconst 0, 1) := by decide +kernel
theorem dL_fails_553 : decode cL_fails 553 = .ok (.iload_n 3, 1) := by decide +kernel
theorem dL_fails_554 : decode cL_fails 554 = .ok (.invokevirtual 83, 3) := by decide +kernel
theorem dL_fails_557 : decode cL_fails 557 = .ok (.sipush (-1001), 3) := by decide +kernel
theorem dL_fails_560 : decode cL_fails 560 = .ok (.if_icmp .ne 31, 3) := by decide +kernel
theorem dL_fails_563 : decode cL_fails 563 = .ok (.aload_n 0, 1) := by decide +kernel
theorem dL_fails_564 : decode cL_fails 564 = .ok (.iload_n 3, 1) := by decide +kernel
theorem dL_fails_565 : decode cL_fails 565 = .ok (.iconst 0, 1) := by decide +kernel
theorem dL_fails_566 : decode cL_fails 566 = .ok (.invokevirtual 86, 3) := by decide +kernel
theorem dL_fails_569 : decode cL_fails 569 = .ok (.sipush (-1001), 3) := by decide +kernel
theorem dL_fails_572 : decode cL_fails 572 = .ok (.if_icmp .ne 19, 3) := by decide +kernel
theorem dL_fails_575 : decode cL_fails 575 = .ok (.aload_n 0, 1) := by decide +kernel
theorem dL_fails_576 : decode cL_fails 576 = .ok (.iconst 0, 1) := by decide +kernel
theorem dL_fails_577 : decode cL_fails 577 = .ok (.iload_n 2, 1) := by decide +kernel
theorem dL_fails_578 : decode cL_fails 578 = .ok (.invokevirtual 86, 3) := by decide +kernel
theorem dL_fails_581 : decode cL_fails 581 = .ok (.sipush (-1001), 3) := by decide +kernel
theorem dL_fails_584 : decode cL_fails 584 = .ok (.if_icmp .ne 7, 3) := by decide +kernel
theorem dL_fails_587 : decode cL_fails 587 = .ok (.iconst 1, 1) := by decide +kernel
theorem dL_fails_588 : decode cL_fails 588 = .ok (.goto 4, 3) := by decide +kernel
theorem dL_fails_591 : decode cL_fails 591 = .ok (.iconst 0, 1) := by decide +kernel
theorem dL_fails_592 : decode cL_fails 592 = .ok (.istore 6, 2) := by decide +kernel
theorem dL_fails_594 : decode cL_fails 594 = .ok (.iload 6, 2) := by decide +kernel
theorem dL_fails_596 : decode cL_fails 596 = .ok (.ifCond .eq 72, 3) := by decide +kernel
theorem dL_fails_599 : decode cL_fails 599 = .ok (.iload_n 3, 1) := by decide +kernel
theorem dL_fails_600 : decode cL_fails 600 = .ok (.ifCond .eq 64, 3) := by decide +kernel
theorem dL_fails_603 : decode cL_fails 603 = .ok (.aload_n 0, 1) := by decide +kernel
theorem dL_fails_604 : decode cL_fails 604 = .ok (.iconst 1, 1) := by decide +kernel
theorem dL_fails_605 : decode cL_fails 605 = .ok (.iconst 2, 1) := by decide +kernel
theorem dL_fails_606 : decode cL_fails 606 = .ok (.iconst 0, 1) := by decide +kernel
theorem dL_fails_607 : decode cL_fails 607 = .ok (.iconst 0, 1) := by decide +kernel
theorem dL_fails_608 : decode cL_fails 608 = .ok (.iconst 0, 1) := by decide +kernel
theorem dL_fails_609 : decode cL_fails 609 = .ok (.invokevirtual 15, 3) := by decide +kernel
theorem dL_fails_612 : decode cL_fails 612 = .ok (.sipush (-1002), 3) := by decide +kernel
theorem dL_fails_615 : decode cL_fails 615 = .ok (.if_icmp .ne 53, 3) := by decide +kernel
theorem dL_fails_618 : decode cL_fails 618 = .ok (.aload_n 0, 1) := by decide +kernel
theorem dL_fails_619 : decode cL_fails 619 = .ok (.iconst 0, 1) := by decide +kernel
theorem dL_fails_620 : decode cL_fails 620 = .ok (.invokevirtual 21, 3) := by decide +kernel
theorem dL_fails_623 : decode cL_fails 623 = .ok (.sipush (-1002), 3) := by decide +kernel
theorem dL_fails_626 : decode cL_fails 626 = .ok (.if_icmp .ne 42, 3) := by decide +kernel
theorem dL_fails_629 : decode cL_fails 629 = .ok (.aload_n 0, 1) := by decide +kernel
theorem dL_fails_630 : decode cL_fails 630 = .ok (.iconst 0, 1) := by decide +kernel
theorem dL_fails_631 : decode cL_fails 631 = .ok (.iconst 0, 1) := by decide +kernel
theorem dL_fails_632 : decode cL_fails 632 = .ok (.iconst 1, 1) := by decide +kernel
theorem dL_fails_633 : decode cL_fails 633 = .ok (.invokevirtual 25, 3) := by decide +kernel
theorem dL_fails_636 : decode cL_fails 636 = .ok (.sipush (-1002), 3) := by decide +kernel
theorem dL_fails_639 : decode cL_fails 639 = .ok (.if_icmp .ne 29, 3) := by decide +kernel
theorem dL_fails_642 : decode cL_fails 642 = .ok (.aload_n 0, 1) := by decide +kernel
theorem dL_fails_643 : decode cL_fails 643 = .ok (.iconst 5, 1) := by decide +kernel
theorem dL_fails_644 : decode cL_fails 644 = .ok (.invokevirtual 89, 3) := by decide +kernel
theorem dL_fails_647 : decode cL_fails 647 = .ok (.sipush (-1002), 3) := by decide +kernel
theorem dL_fails_650 : decode cL_fails 650 = .ok (.if_icmp .ne 18, 3) := by decide +kernel
theorem dL_fails_653 : decode cL_fails 653 = .ok (.aload_n 0, 1) := by decide +kernel
theorem dL_fails_654 : decode cL_fails 654 = .ok (.invokevirtual 92, 3) := by decide +kernel
theorem dL_fails_657 : decode cL_fails 657 = .ok (.ldc2_w 95, 3) := by decide +kernel
theorem dL_fails_660 : decode cL_fails 660 = .ok (.lcmp, 1) := by decide +kernel
theorem dL_fails_661 : decode cL_fails 661 = .ok (.ifCond .ne 7, 3) := by decide +kernel
theorem dL_fails_664 : decode cL_fails 664 = .ok (.iconst 1, 1) := by decide +kernel
theorem dL_fails_665 : decode cL_fails 665 = .ok (.goto 4, 3) := by decide +kernel
theorem dL_fails_668 : decode cL_fails 668 = .ok (.iconst 0, 1) := by decide +kernel
theorem dL_fails_669 : decode cL_fails 669 = .ok (.istore 6, 2) := by decide +kernel
theorem dL_fails_671 : decode cL_fails 671 = .ok (.iload 6, 2) := by decide +kernel
theorem dL_fails_673 : decode cL_fails 673 = .ok (.ifCond .eq 17, 3) := by decide +kernel
theorem dL_fails_676 : decode cL_fails 676 = .ok (.aload_n 0, 1) := by decide +kernel
theorem dL_fails_677 : decode cL_fails 677 = .ok (.invokevirtual 9, 3) := by decide +kernel
theorem dL_fails_680 : decode cL_fails 680 = .ok (.lload 4, 2) := by decide +kernel
theorem dL_fails_682 : decode cL_fails 682 = .ok (.lcmp, 1) := by decide +kernel
theorem dL_fails_683 : decode cL_fails 683 = .ok (.ifCond .ne 7, 3) := by decide +kernel
theorem dL_fails_686 : decode cL_fails 686 = .ok (.iconst 1, 1) := by decide +kernel
theorem dL_fails_687 : decode cL_fails 687 = .ok (.goto 4, 3) := by decide +kernel
theorem dL_fails_690 : decode cL_fails 690 = .ok (.iconst 0, 1) := by decide +kernel
theorem dL_fails_691 : decode cL_fails 691 = .ok (.ireturn, 1) := by decide +kernel
theorem dL_version_0 : decode cL_version 0 = .ok (.iconst 0, 1) := by decide +kernel
theorem dL_version_1 : decode cL_version 1 = .ok (.istore_n 3, 1) := by decide +kernel
theorem dL_version_2 : decode cL_version 2 = .ok (.iconst 0, 1) := by decide +kernel
theorem dL_version_3 : decode cL_version 3 = .ok (.istore 4, 2) := by decide +kernel
theorem dL_version_5 : decode cL_version 5 = .ok (.iconst 0, 1) := by decide +kernel
theorem dL_version_6 : decode cL_version 6 = .ok (.istore 5, 2) := by decide +kernel
theorem dL_version_8 : decode cL_version 8 = .ok (.iconst 0, 1) := by decide +kernel
theorem dL_version_9 : decode cL_version 9 = .ok (.istore 6, 2) := by decide +kernel
theorem dL_version_11 : decode cL_version 11 = .ok (.iload 6, 2) := by decide +kernel
theorem dL_version_13 : decode cL_version 13 = .ok (.iload_n 2, 1) := by decide +kernel
theorem dL_version_14 : decode cL_version 14 = .ok (.if_icmp .ge 269, 3) := by decide +kernel
theorem dL_version_17 : decode cL_version 17 = .ok (.aload_n 0, 1) := by decide +kernel
theorem dL_version_18 : decode cL_version 18 = .ok (.iload_n 1, 1) := by decide +kernel
theorem dL_version_19 : decode cL_version 19 = .ok (.iload 6, 2) := by decide +kernel
theorem dL_version_21 : decode cL_version 21 = .ok (.iconst 0, 1) := by decide +kernel
theorem dL_version_22 : decode cL_version 22 = .ok (.invokevirtual 33, 3) := by decide +kernel
theorem dL_version_25 : decode cL_version 25 = .ok (.istore 7, 2) := by decide +kernel
theorem dL_version_27 : decode cL_version 27 = .ok (.aload_n 0, 1) := by decide +kernel
theorem dL_version_28 : decode cL_version 28 = .ok (.iload 7, 2) := by decide +kernel
theorem dL_version_30 : decode cL_version 30 = .ok (.iconst 3, 1) := by decide +kernel
theorem dL_version_31 : decode cL_version 31 = .ok (.invokevirtual 29, 3) := by decide +kernel
theorem dL_version_34 : decode cL_version 34 = .ok (.istore 8, 2) := by decide +kernel
theorem dL_version_36 : decode cL_version 36 = .ok (.aload_n 0, 1) := by decide +kernel
theorem dL_version_37 : decode cL_version 37 = .ok (.iload 7, 2) := by decide +kernel
theorem dL_version_39 : decode cL_version 39 = .ok (.iconst 4, 1) := by decide +kernel
theorem dL_version_40 : decode cL_version 40 = .ok (.invokevirtual 29, 3) := by decide +kernel
theorem dL_version_43 : decode cL_version 43 = .ok (.istore 9, 2) := by decide +kernel
theorem dL_version_45 : decode cL_version 45 = .ok (.iload_n 3, 1) := by decide +kernel
theorem dL_version_46 : decode cL_version 46 = .ok (.iload 7, 2) := by decide +kernel
theorem dL_version_48 : decode cL_version 48 = .ok (.ishr, 1) := by decide +kernel
theorem dL_version_49 : decode cL_version 49 = .ok (.iconst 1, 1) := by decide +kernel
theorem dL_version_50 : decode cL_version 50 = .ok (.iand, 1) := by decide +kernel
theorem dL_version_51 : decode cL_version 51 = .ok (.iconst 1, 1) := by decide +kernel
theorem dL_version_52 : decode cL_version 52 = .ok (.if_icmp .eq 38, 3) := by decide +kernel
theorem dL_version_55 : decode cL_version 55 = .ok (.aload_n 0, 1) := by decide +kernel
theorem dL_version_56 : decode cL_version 56 = .ok (.iload_n 1, 1) := by decide +kernel
theorem dL_version_57 : decode cL_version 57 = .ok (.iload 7, 2) := by decide +kernel
theorem dL_version_59 : decode cL_version 59 = .ok (.invokevirtual 36, 3) := by decide +kernel
theorem dL_version_62 : decode cL_version 62 = .ok (.iload 6, 2) := by decide +kernel
theorem dL_version_64 : decode cL_version 64 = .ok (.if_icmp .ne 26, 3) := by decide +kernel
theorem dL_version_67 : decode cL_version 67 = .ok (.iload 8, 2) := by decide +kernel
theorem dL_version_69 : decode cL_version 69 = .ok (.ifCond .eq 23, 3) := by decide +kernel
theorem dL_version_72 : decode cL_version 72 = .ok (.iload 8, 2) := by decide +kernel
theorem dL_version_74 : decode cL_version 74 = .ok (.iload 5, 2) := by decide +kernel
theorem dL_version_76 : decode cL_version 76 = .ok (.if_icmp .eq 16, 3) := by decide +kernel
theorem dL_version_79 : decode cL_version 79 = .ok (.iload 4, 2) := by decide +kernel
theorem dL_version_81 : decode cL_version 81 = .ok (.iload 8, 2) := by decide +kernel
theorem dL_version_83 : decode cL_version 83 = .ok (.ishr, 1) := by decide +kernel
theorem dL_version_84 : decode cL_version 84 = .ok (.iconst 1, 1) := by decide +kernel
theorem dL_version_85 : decode cL_version 85 = .ok (.iand, 1) := by decide +kernel
theorem dL_version_86 : decode cL_version 86 = .ok (.iconst 1, 1) := by decide +kernel
theorem dL_version_87 : decode cL_version 87 = .ok (.if_icmp .ne 5, 3) := by decide +kernel
theorem dL_version_90 : decode cL_version 90 = .ok (.iconst 0, 1) := by decide +kernel
theorem dL_version_91 : decode cL_version 91 = .ok (.ireturn, 1) := by decide +kernel
theorem dL_version_92 : decode cL_version 92 = .ok (.iload_n 3, 1) := by decide +kernel
theorem dL_version_93 : decode cL_version 93 = .ok (.iconst 1, 1) := by decide +kernel
theorem dL_version_94 : decode cL_version 94 = .ok (.iload 7, 2) := by decide +kernel
theorem dL_version_96 : decode cL_version 96 = .ok (.ishl, 1) := by decide +kernel
theorem dL_version_97 : decode cL_version 97 = .ok (.ior, 1) := by decide +kernel
theorem dL_version_98 : decode cL_version 98 = .ok (.istore_n 3, 1) := by decide +kernel
theorem dL_version_99 : decode cL_version 99 = .ok (.iload 4, 2) := by decide +kernel
theorem dL_version_101 : decode cL_version 101 = .ok (.iload 8, 2) := by decide +kernel
theorem dL_version_103 : decode cL_version 103 = .ok (.ifCond .ne 7, 3) := by decide +kernel
theorem dL_version_106 : decode cL_version 106 = .ok (.iconst 0, 1) := by decide +kernel
theorem dL_version_107 : decode cL_version 107 = .ok (.goto 7, 3) := by decide +kernel
theorem dL_version_110 : decode cL_version 110 = .ok (.iconst 1, 1) := by decide +kernel
theorem dL_version_111 : decode cL_version 111 = .ok (.iload 8, 2) := by decide +kernel
theorem dL_version_113 : decode cL_version 113 = .ok (.ishl, 1) := by decide +kernel
theorem dL_version_114 : decode cL_version 114 = .ok (.ior, 1) := by decide +kernel
theorem dL_version_115 : decode cL_version 115 = .ok (.istore 4, 2) := by decide +kernel
theorem dL_version_117 : decode cL_version 117 = .ok (.iload 8, 2) := by decide +kernel
theorem dL_version_119 : decode cL_version 119 = .ok (.istore 5, 2) := by decide +kernel
theorem dL_version_121 : decode cL_version 121 = .ok (.iconst 0, 1) := by decide +kernel
theorem dL_version_122 : decode cL_version 122 = .ok (.istore 10, 2) := by decide +kernel
theorem dL_version_124 : decode cL_version 124 = .ok (.iconst 0, 1) := by decide +kernel
theorem dL_version_125 : decode cL_version 125 = .ok (.istore 11, 2) := by decide +kernel
theorem dL_version_127 : decode cL_version 127 = .ok (.iload 11, 2) := by decide +kernel
theorem dL_version_129 : decode cL_version 129 = .ok (.iload 9, 2) := by decide +kernel
theorem dL_version_131 : decode cL_version 131 = .ok (.if_icmp .ge 115, 3) := by decide +kernel
theorem dL_version_134 : decode cL_version 134 = .ok (.aload_n 0, 1) := by decide +kernel
theorem dL_version_135 : decode cL_version 135 = .ok (.iload_n 1, 1) := by decide +kernel
theorem dL_version_136 : decode cL_version 136 = .ok (.iload 6, 2) := by decide +kernel
theorem dL_version_138 : decode cL_version 138 = .ok (.iload 11, 2) := by decide +kernel
theorem dL_version_140 : decode cL_version 140 = .ok (.invokevirtual 39, 3) := by decide +kernel
theorem dL_version_143 : decode cL_version 143 = .ok (.istore 12, 2) := by decide +kernel
theorem dL_version_145 : decode cL_version 145 = .ok (.iload 12, 2) := by decide +kernel
theorem dL_version_147 : decode cL_version 147 = .ok (.ifCond .lt 82, 3) := by decide +kernel
theorem dL_version_150 : decode cL_version 150 = .ok (.iload 12, 2) := by decide +kernel
theorem dL_version_152 : decode cL_version 152 = .ok (.iload 9, 2) := by decide +kernel
theorem dL_version_154 : decode cL_version 154 = .ok (.if_icmp .ge 75, 3) := by decide +kernel
theorem dL_version_157 : decode cL_version 157 = .ok (.iload 10, 2) := by decide +kernel
theorem dL_version_159 : decode cL_version 159 = .ok (.iload 12, 2) := by decide +kernel
theorem dL_version_161 : decode cL_version 161 = .ok (.ishr, 1) := by decide +kernel
theorem dL_version_162 : decode cL_version 162 = .ok (.iconst 1, 1) := by decide +kernel
theorem dL_version_163 : decode cL_version 163 = .ok (.iand, 1) := by decide +kernel
theorem dL_version_164 : decode cL_version 164 = .ok (.iconst 1, 1) := by decide +kernel
theorem dL_version_165 : decode cL_version 165 = .ok (.if_icmp .eq 64, 3) := by decide +kernel
theorem dL_version_168 : decode cL_version 168 = .ok (.aload_n 0, 1) := by decide +kernel
theorem dL_version_169 : decode cL_version 169 = .ok (.iload 7, 2) := by decide +kernel
theorem dL_version_171 : decode cL_version 171 = .ok (.iconst 2, 1) := by decide +kernel
theorem dL_version_172 : decode cL_version 172 = .ok (.invokevirtual 29, 3) := by decide +kernel
theorem dL_version_175 : decode cL_version 175 = .ok (.iload 11, 2) := by decide +kernel
theorem dL_version_177 : decode cL_version 177 = .ok (.ishr, 1) := by decide +kernel
theorem dL_version_178 : decode cL_version 178 = .ok (.iconst 1, 1) := by decide +kernel
theorem dL_version_179 : decode cL_version 179 = .ok (.iand, 1) := by decide +kernel
theorem dL_version_180 : decode cL_version 180 = .ok (.iconst 1, 1) := by decide +kernel
theorem dL_version_181 : decode cL_version 181 = .ok (.if_icmp .ne 10, 3) := by decide +kernel
theorem dL_version_184 : decode cL_version 184 = .ok (.iload 12, 2) := by decide +kernel
theorem dL_version_186 : decode cL_version 186 = .ok (.iload 11, 2) := by decide +kernel
theorem dL_version_188 : decode cL_version 188 = .ok (.if_icmp .ne 41, 3) := by decide +kernel
theorem dL_version_191 : decode cL_version 191 = .ok (.iload 12, 2) := by decide +kernel
theorem dL_version_193 : decode cL_version 193 = .ok (.aload_n 0, 1) := by decide +kernel
theorem dL_version_194 : decode cL_version 194 = .ok (.iload 7, 2) := by decide +kernel
theorem dL_version_196 : decode cL_version 196 = .ok (.iconst 1, 1) := by decide +kernel
theorem dL_version_197 : decode cL_version 197 = .ok (.invokevirtual 29, 3) := by decide +kernel
theorem dL_version_200 : decode cL_version 200 = .ok (.if_icmp .ne 7, 3) := by decide +kernel
theorem dL_version_203 : decode cL_version 203 = .ok (.iconst 1, 1) := by decide +kernel
theorem dL_version_204 : decode cL_version 204 = .ok (.goto 4, 3) := by decide +kernel
theorem dL_version_207 : decode cL_version 207 = .ok (.iconst 0, 1) := by decide +kernel
theorem dL_version_208 : decode cL_version 208 = .ok (.aload_n 0, 1) := by decide +kernel
theorem dL_version_209 : decode cL_version 209 = .ok (.iload_n 1, 1) := by decide +kernel
theorem dL_version_210 : decode cL_version 210 = .ok (.iload 6, 2) := by decide +kernel
theorem dL_version_212 : decode cL_version 212 = .ok (.iconst 1, 1) := by decide +kernel
theorem dL_version_213 : decode cL_version 213 = .ok (.invokevirtual 33, 3) := by decide +kernel
theorem dL_version_216 : decode cL_version 216 = .ok (.iload 11, 2) := by decide +kernel
theorem dL_version_218 : decode cL_version 218 = .ok (.if_icmp .ne 7, 3) := by decide +kernel
theorem dL_version_221 : decode cL_version 221 = .ok (.iconst 1, 1) := by decide +kernel
theorem dL_version_222 : decode cL_version 222 = .ok (.goto 4, 3) := by decide +kernel
theorem dL_version_225 : decode cL_version 225 = .ok (.iconst 0, 1) := by decide +kernel
theorem dL_version_226 : decode cL_version 226 = .ok (.if_icmp .eq 5, 3) := by decide +kernel
theorem dL_version_229 : decode cL_version 229 = .ok (.iconst 0, 1) := by decide +kernel
theorem dL_version_230 : decode cL_version 230 = .ok (.ireturn, 1) := by decide +kernel
theorem dL_version_231 : decode cL_version 231 = .ok (.iload 10, 2) := by decide +kernel
theorem dL_version_233 : decode cL_version 233 = .ok (.iconst 1, 1) := by decide +kernel
theorem dL_version_234 : decode cL_version 234 = .ok (.iload 12, 2) := by decide +kernel
theorem dL_version_236 : decode cL_version 236 = .ok (.ishl, 1) := by decide +kernel
theorem dL_version_237 : decode cL_version 237 = .ok (.ior, 1) := by decide +kernel
theorem dL_version_238 : decode cL_version 238 = .ok (.istore 10, 2) := by decide +kernel
theorem dL_version_240 : decode cL_version 240 = .ok (.iinc 11 1, 3) := by decide +kernel
theorem dL_version_243 : decode cL_version 243 = .ok (.goto (-116), 3) := by decide +kernel
theorem dL_version_246 : decode cL_version 246 = .ok (.aload_n 0, 1) := by decide +kernel
theorem dL_version_247 : decode cL_version 247 = .ok (.iload_n 1, 1) := by decide +kernel
theorem dL_version_248 : decode cL_version 248 = .ok (.iload 6, 2) := by decide +kernel
theorem dL_version_250 : decode cL_version 250 = .ok (.iload 9, 2) := by decide +kernel
theorem dL_version_252 : decode cL_version 252 = .ok (.invokevirtual 39, 3) := by decide +kernel
theorem dL_version_255 : decode cL_version 255 = .ok (.sipush (-1001), 3) := by decide +kernel
theorem dL_version_258 : decode cL_version 258 = .ok (.if_icmp .ne 17, 3) := by decide +kernel
theorem dL_version_261 : decode cL_version 261 = .ok (.aload_n 0, 1) := by decide +kernel
theorem dL_version_262 : decode cL_version 262 = .ok (.iload_n 1, 1) := by decide +kernel
theorem dL_version_263 : decode cL_version 263 = .ok (.iload 6, 2) := by decide +kernel
theorem dL_version_265 : decode cL_version 265 = .ok (.iconst (-1), 1) := by decide +kernel
theorem dL_version_266 : decode cL_version 266 = .ok (.invokevirtual 39, 3) := by decide +kernel
theorem dL_version_269 : decode cL_version 269 = .ok (.sipush (-1001), 3) := by decide +kernel
theorem dL_version_272 : decode cL_version 272 = .ok (.if_icmp .eq 5, 3) := by decide +kernel
theorem dL_version_275 : decode cL_version 275 = .ok (.iconst 0, 1) := by decide +kernel
theorem dL_version_276 : decode cL_version 276 = .ok (.ireturn, 1) := by decide +kernel
theorem dL_version_277 : decode cL_version 277 = .ok (.iinc 6 1, 3) := by decide +kernel
theorem dL_version_280 : decode cL_version 280 = .ok (.goto (-269), 3) := by decide +kernel
theorem dL_version_283 : decode cL_version 283 = .ok (.aload_n 0, 1) := by decide +kernel
theorem dL_version_284 : decode cL_version 284 = .ok (.iload_n 1, 1) := by decide +kernel
theorem dL_version_285 : decode cL_version 285 = .ok (.iload_n 1, 1) := by decide +kernel
theorem dL_version_286 : decode cL_version 286 = .ok (.iconst 0, 1) := by decide +kernel
theorem dL_version_287 : decode cL_version 287 = .ok (.invokevirtual 42, 3) := by decide +kernel
theorem dL_version_290 : decode cL_version 290 = .ok (.iload_n 2, 1) := by decide +kernel
theorem dL_version_291 : decode cL_version 291 = .ok (.if_icmp .ne 48, 3) := by decide +kernel
theorem dL_version_294 : decode cL_version 294 = .ok (.aload_n 0, 1) := by decide +kernel
theorem dL_version_295 : decode cL_version 295 = .ok (.iload_n 1, 1) := by decide +kernel
theorem dL_version_296 : decode cL_version 296 = .ok (.iload_n 1, 1) := by decide +kernel
theorem dL_version_297 : decode cL_version 297 = .ok (.iconst 1, 1) := by decide +kernel
theorem dL_version_298 : decode cL_version 298 = .ok (.invokevirtual 42, 3) := by decide +kernel
theorem dL_version_301 : decode cL_version 301 = .ok (.iload_n 2, 1) := by decide +kernel
theorem dL_version_302 : decode cL_version 302 = .ok (.if_icmp .ne 37, 3) := by decide +kernel
theorem dL_version_305 : decode cL_version 305 = .ok (.aload_n 0, 1) := by decide +kernel
theorem dL_version_306 : decode cL_version 306 = .ok (.iload_n 1, 1) := by decide +kernel
theorem dL_version_307 : decode cL_version 307 = .ok (.iload_n 1, 1) := by decide +kernel
theorem dL_version_308 : decode cL_version 308 = .ok (.iconst 2, 1) := by decide +kernel
theorem dL_version_309 : decode cL_version 309 = .ok (.invokevirtual 42, 3) := by decide +kernel
theorem dL_version_312 : decode cL_version 312 = .ok (.iload_n 2, 1) := by decide +kernel
theorem dL_version_313 : decode cL_version 313 = .ok (.ifCond .ne 7, 3) := by decide +kernel
theorem dL_version_316 : decode cL_version 316 = .ok (.iconst 0, 1) := by decide +kernel
theorem dL_version_317 : decode cL_version 317 = .ok (.goto 6, 3) := by decide +kernel
theorem dL_version_320 : decode cL_version 320 = .ok (.iload_n 2, 1) := by decide +kernel
theorem dL_version_321 : decode cL_version 321 = .ok (.iconst 1, 1) := by decide +kernel
theorem dL_version_322 : decode cL_version 322 = .ok (.isub, 1) := by decide +kernel
theorem dL_version_323 : decode cL_version 323 = .ok (.if_icmp .ne 16, 3) := by decide +kernel
theorem dL_version_326 : decode cL_version 326 = .ok (.aload_n 0, 1) := by decide +kernel
theorem dL_version_327 : decode cL_version 327 = .ok (.iload_n 1, 1) := by decide +kernel
theorem dL_version_328 : decode cL_version 328 = .ok (.iload_n 2, 1) := by decide +kernel
theorem dL_version_329 : decode cL_version 329 = .ok (.invokestatic 97, 3) := by decide +kernel
theorem dL_version_332 : decode cL_version 332 = .ok (.ifCond .eq 7, 3) := by decide +kernel
theorem dL_version_335 : decode cL_version 335 = .ok (.iconst 1, 1) := by decide +kernel
theorem dL_version_336 : decode cL_version 336 = .ok (.goto 4, 3) := by decide +kernel
theorem dL_version_339 : decode cL_version 339 = .ok (.iconst 0, 1) := by decide +kernel
theorem dL_version_340 : decode cL_version 340 = .ok (.ireturn, 1) := by decide +kernel
theorem dL_pages_0 : decode cL_pages 0 = .ok (.aload_n 0, 1) := by decide +kernel
theorem dL_pages_1 : decode cL_pages 1 = .ok (.iload_n 1, 1) := by decide +kernel
theorem dL_pages_2 : decode cL_pages 2 = .ok (.invokevirtual 54, 3) := by decide +kernel
theorem dL_pages_5 : decode cL_pages 5 = .ok (.istore_n 3, 1) := by decide +kernel
theorem dL_pages_6 : decode cL_pages 6 = .ok (.iconst (-1), 1) := by decide +kernel
theorem dL_pages_7 : decode cL_pages 7 = .ok (.istore 4, 2) := by decide +kernel
theorem dL_pages_9 : decode cL_pages 9 = .ok (.iconst 0, 1) := by decide +kernel
theorem dL_pages_10 : decode cL_pages 10 = .ok (.istore 5, 2) := by decide +kernel
theorem dL_pages_12 : decode cL_pages 12 = .ok (.iconst 0, 1) := by decide +kernel
theorem dL_pages_13 : decode cL_pages 13 = .ok (.istore 6, 2) := by decide +kernel
theorem dL_pages_15 : decode cL_pages 15 = .ok (.iconst 0, 1) := by decide +kernel
theorem dL_pages_16 : decode cL_pages 16 = .ok (.istore 7, 2) := by decide +kernel
theorem dL_pages_18 : decode cL_pages 18 = .ok (.iconst 0, 1) := by decide +kernel
theorem dL_pages_19 : decode cL_pages 19 = .ok (.istore 8, 2) := by decide +kernel
theorem dL_pages_21 : decode cL_pages 21 = .ok (.iload 8, 2) := by decide +kernel
theorem dL_pages_23 : decode cL_pages 23 = .ok (.iload_n 3, 1) := by decide +kernel
theorem dL_pages_24 : decode cL_pages 24 = .ok (.if_icmp .ge 68, 3) := by decide +kernel
theorem dL_pages_27 : decode cL_pages 27 = .ok (.aload_n 0, 1) := by decide +kernel
theorem dL_pages_28 : decode cL_pages 28 = .ok (.iload_n 1, 1) := by decide +kernel
theorem dL_pages_29 : decode cL_pages 29 = .ok (.iload 8, 2) := by decide +kernel
theorem dL_pages_31 : decode cL_pages 31 = .ok (.iconst 1, 1) := by decide +kernel
theorem dL_pages_32 : decode cL_pages 32 = .ok (.invokevirtual 57, 3) := by decide +kernel
theorem dL_pages_35 : decode cL_pages 35 = .ok (.istore 9, 2) := by decide +kernel
theorem dL_pages_37 : decode cL_pages 37 = .ok (.iload 9, 2) := by decide +kernel
theorem dL_pages_39 : decode cL_pages 39 = .ok (.iload 6, 2) := by decide +kernel
theorem dL_pages_41 : decode cL_pages 41 = .ok (.if_icmp .le 8, 3) := by decide +kernel
theorem dL_pages_44 : decode cL_pages 44 = .ok (.iload 9, 2) := by decide +kernel
theorem dL_pages_46 : decode cL_pages 46 = .ok (.goto 5, 3) := by decide +kernel
theorem dL_pages_49 : decode cL_pages 49 = .ok (.iload 6, 2) := by decide +kernel
theorem dL_pages_51 : decode cL_pages 51 = .ok (.istore 6, 2) := by decide +kernel
theorem dL_pages_53 : decode cL_pages 53 = .ok (.iload 7, 2) := by decide +kernel
theorem dL_pages_55 : decode cL_pages 55 = .ok (.aload_n 0, 1) := by decide +kernel
theorem dL_pages_56 : decode cL_pages 56 = .ok (.iload_n 1, 1) := by decide +kernel
theorem dL_pages_57 : decode cL_pages 57 = .ok (.iload 8, 2) := by decide +kernel
theorem dL_pages_59 : decode cL_pages 59 = .ok (.iconst 0, 1) := by decide +kernel
theorem dL_pages_60 : decode cL_pages 60 = .ok (.invokevirtual 57, 3) := by decide +kernel
theorem dL_pages_63 : decode cL_pages 63 = .ok (.iadd, 1) := by decide +kernel
theorem dL_pages_64 : decode cL_pages 64 = .ok (.istore 7, 2) := by decide +kernel
theorem dL_pages_66 : decode cL_pages 66 = .ok (.iload 9, 2) := by decide +kernel
theorem dL_pages_68 : decode cL_pages 68 = .ok (.iconst 1, 1) := by decide +kernel
theorem dL_pages_69 : decode cL_pages 69 = .ok (.if_icmp .lt 15, 3) := by decide +kernel
theorem dL_pages_72 : decode cL_pages 72 = .ok (.aload_n 0, 1) := by decide +kernel
theorem dL_pages_73 : decode cL_pages 73 = .ok (.iload_n 1, 1) := by decide +kernel
theorem dL_pages_74 : decode cL_pages 74 = .ok (.iload 8, 2) := by decide +kernel
theorem dL_pages_76 : decode cL_pages 76 = .ok (.iconst 0, 1) := by decide +kernel
theorem dL_pages_77 : decode cL_pages 77 = .ok (.invokevirtual 57, 3) := by decide +kernel
theorem dL_pages_80 : decode cL_pages 80 = .ok (.iconst 1, 1) := by decide +kernel
theorem dL_pages_81 : decode cL_pages 81 = .ok (.if_icmp .ge 5, 3) := by decide +kernel
theorem dL_pages_84 : decode cL_pages 84 = .ok (.iconst 0, 1) := by decide +kernel
theorem dL_pages_85 : decode cL_pages 85 = .ok (.ireturn, 1) := by decide +kernel
theorem dL_pages_86 : decode cL_pages 86 = .ok (.iinc 8 1, 3) := by decide +kernel
theorem dL_pages_89 : decode cL_pages 89 = .ok (.goto (-68), 3) := by decide +kernel
theorem dL_pages_92 : decode cL_pages 92 = .ok (.iconst 0, 1) := by decide +kernel
theorem dL_pages_93 : decode cL_pages 93 = .ok (.istore 8, 2) := by decide +kernel
theorem dL_pages_95 : decode cL_pages 95 = .ok (.iload 8, 2) := by decide +kernel
theorem dL_pages_97 : decode cL_pages 97 = .ok (.iload_n 2, 1) := by decide +kernel
theorem dL_pages_98 : decode cL_pages 98 = .ok (.if_icmp .ge 118, 3) := by decide +kernel
theorem dL_pages_101 : decode cL_pages 101 = .ok (.aload_n 0, 1) := by decide +kernel
theorem dL_pages_102 : decode cL_pages 102 = .ok (.aload_n 0, 1) := by decide +kernel
theorem dL_pages_103 : decode cL_pages 103 = .ok (.iload_n 1, 1) := by decide +kernel
theorem dL_pages_104 : decode cL_pages 104 = .ok (.iload 8, 2) := by decide +kernel
theorem dL_pages_106 : decode cL_pages 106 = .ok (.iconst 0, 1) := by decide +kernel
theorem dL_pages_107 : decode cL_pages 107 = .ok (.invokevirtual 33, 3) := by decide +kernel
theorem dL_pages_110 : decode cL_pages 110 = .ok (.iconst 0, 1) := by decide +kernel
theorem dL_pages_111 : decode cL_pages 111 = .ok (.invokevirtual 29, 3) := by decide +kernel
theorem dL_pages_114 : decode cL_pages 114 = .ok (.istore 9, 2) := by decide +kernel
theorem dL_pages_116 : decode cL_pages 116 = .ok (.aload_n 0, 1) := by decide +kernel
theorem dL_pages_117 : decode cL_pages 117 = .ok (.iload_n 1, 1) := by decide +kernel
theorem dL_pages_118 : decode cL_pages 118 = .ok (.iload 8, 2) := by decide +kernel
theorem dL_pages_120 : decode cL_pages 120 = .ok (.iconst 2, 1) := by decide +kernel
theorem dL_pages_121 : decode cL_pages 121 = .ok (.invokevirtual 33, 3) := by decide +kernel
theorem dL_pages_124 : decode cL_pages 124 = .ok (.iload 4, 2) := by decide +kernel
theorem dL_pages_126 : decode cL_pages 126 = .ok (.iconst 1, 1) := by decide +kernel
theorem dL_pages_127 : decode cL_pages 127 = .ok (.iadd, 1) := by decide +kernel
theorem dL_pages_128 : decode cL_pages 128 = .ok (.if_icmp .ne 9, 3) := by decide +kernel
theorem dL_pages_131 : decode cL_pages 131 = .ok (.iinc 4 1, 3) := by decide +kernel
theorem dL_pages_134 : decode cL_pages 134 = .ok (.iconst 0, 1) := by decide +kernel
theorem dL_pages_135 : decode cL_pages 135 = .ok (.istore 5, 2) := by decide +kernel
theorem dL_pages_137 : decode cL_pages 137 = .ok (.aload_n 0, 1) := by decide +kernel
theorem dL_pages_138 : decode cL_pages 138 = .ok (.iload_n 1, 1) := by decide +kernel
theorem dL_pages_139 : decode cL_pages 139 = .ok (.iload 8, 2) := by decide +kernel
theorem dL_pages_141 : decode cL_pages 141 = .ok (.iconst 2, 1) := by decide +kernel
theorem dL_pages_142 : decode cL_pages 142 = .ok (.invokevirtual 33, 3) := by decide +kernel
theorem dL_pages_145 : decode cL_pages 145 = .ok (.iload 4, 2) := by decide +kernel
theorem dL_pages_147 : decode cL_pages 147 = .ok (.if_icmp .ne 16, 3) := by decide +kernel
theorem dL_pages_150 : decode cL_pages 150 = .ok (.aload_n 0, 1) := by decide +kernel
theorem dL_pages_151 : decode cL_pages 151 = .ok (.iload_n 1, 1) := by decide +kernel
theorem dL_pages_152 : decode cL_pages 152 = .ok (.iload 8, 2) := by decide +kernel
theorem dL_pages_154 : decode cL_pages 154 = .ok (.iconst 3, 1) := by decide +kernel
theorem dL_pages_155 : decode cL_pages 155 = .ok (.invokevirtual 33, 3) := by decide +kernel
theorem dL_pages_158 : decode cL_pages 158 = .ok (.iload 5, 2) := by decide +kernel
theorem dL_pages_160 : decode cL_pages 160 = .ok (.if_icmp .eq 5, 3) := by decide +kernel
theorem dL_pages_163 : decode cL_pages 163 = .ok (.iconst 0, 1) := by decide +kernel
theorem dL_pages_164 : decode cL_pages 164 = .ok (.ireturn, 1) := by decide +kernel
theorem dL_pages_165 : decode cL_pages 165 = .ok (.iload 5, 2) := by decide +kernel
theorem dL_pages_167 : decode cL_pages 167 = .ok (.iload 9, 2) := by decide +kernel
theorem dL_pages_169 : decode cL_pages 169 = .ok (.iadd, 1) := by decide +kernel
theorem dL_pages_170 : decode cL_pages 170 = .ok (.istore 5, 2) := by decide +kernel
theorem dL_pages_172 : decode cL_pages 172 = .ok (.iload 8, 2) := by decide +kernel
theorem dL_pages_174 : decode cL_pages 174 = .ok (.iload_n 2, 1) := by decide +kernel
theorem dL_pages_175 : decode cL_pages 175 = .ok (.iconst 1, 1) := by decide +kernel
theorem dL_pages_176 : decode cL_pages 176 = .ok (.isub, 1) := by decide +kernel
theorem dL_pages_177 : decode cL_pages 177 = .ok (.if_icmp .eq 18, 3) := by decide +kernel
theorem dL_pages_180 : decode cL_pages 180 = .ok (.aload_n 0, 1) := by decide +kernel
theorem dL_pages_181 : decode cL_pages 181 = .ok (.iload_n 1, 1) := by decide +kernel
theorem dL_pages_182 : decode cL_pages 182 = .ok (.iload 8, 2) := by decide +kernel
theorem dL_pages_184 : decode cL_pages 184 = .ok (.iconst 1, 1) := by decide +kernel
theorem dL_pages_185 : decode cL_pages 185 = .ok (.iadd, 1) := by decide +kernel
theorem dL_pages_186 : decode cL_pages 186 = .ok (.iconst 2, 1) := by decide +kernel
theorem dL_pages_187 : decode cL_pages 187 = .ok (.invokevirtual 33, 3) := by decide +kernel
theorem dL_pages_190 : decode cL_pages 190 = .ok (.iload 4, 2) := by decide +kernel
theorem dL_pages_192 : decode cL_pages 192 = .ok (.if_icmp .eq 18, 3) := by decide +kernel
theorem dL_pages_195 : decode cL_pages 195 = .ok (.aload_n 0, 1) := by decide +kernel
theorem dL_pages_196 : decode cL_pages 196 = .ok (.iload_n 1, 1) := by decide +kernel
theorem dL_pages_197 : decode cL_pages 197 = .ok (.iload 4, 2) := by decide +kernel
theorem dL_pages_199 : decode cL_pages 199 = .ok (.iconst 1, 1) := by decide +kernel
theorem dL_pages_200 : decode cL_pages 200 = .ok (.invokevirtual 57, 3) := by decide +kernel
theorem dL_pages_203 : decode cL_pages 203 = .ok (.iload 5, 2) := by decide +kernel
theorem dL_pages_205 : decode cL_pages 205 = .ok (.if_icmp .eq 5, 3) := by decide +kernel
theorem dL_pages_208 : decode cL_pages 208 = .ok (.iconst 0, 1) := by decide +kernel
theorem dL_pages_209 : decode cL_pages 209 = .ok (.ireturn, 1) := by decide +kernel
theorem dL_pages_210 : decode cL_pages 210 = .ok (.iinc 8 1, 3) := by decide +kernel
theorem dL_pages_213 : decode cL_pages 213 = .ok (.goto (-118), 3) := by decide +kernel
theorem dL_pages_216 : decode cL_pages 216 = .ok (.iload 7, 2) := by decide +kernel
theorem dL_pages_218 : decode cL_pages 218 = .ok (.iload_n 2, 1) := by decide +kernel
theorem dL_pages_219 : decode cL_pages 219 = .ok (.if_icmp .ne 43, 3) := by decide +kernel
theorem dL_pages_222 : decode cL_pages 222 = .ok (.iload 4, 2) := by decide +kernel
theorem dL_pages_224 : decode cL_pages 224 = .ok (.iload_n 3, 1) := by decide +kernel
theorem dL_pages_225 : decode cL_pages 225 = .ok (.iconst 1, 1) := by decide +kernel
theorem dL_pages_226 : decode cL_pages 226 = .ok (.isub, 1) := by decide +kernel
theorem dL_pages_227 : decode cL_pages 227 = .ok (.if_icmp .ne 35, 3) := by decide +kernel
theorem dL_pages_230 : decode cL_pages 230 = .ok (.iload_n 3, 1) := by decide +kernel
theorem dL_pages_231 : decode cL_pages 231 = .ok (.ifCond .ne 7, 3) := by decide +kernel
theorem dL_pages_234 : decode cL_pages 234 = .ok (.iconst 1, 1) := by decide +kernel
theorem dL_pages_235 : decode cL_pages 235 = .ok (.goto 4, 3) := by decide +kernel
theorem dL_pages_238 : decode cL_pages 238 = .ok (.iconst 0, 1) := by decide +kernel
theorem dL_pages_239 : decode cL_pages 239 = .ok (.iload_n 2, 1) := by decide +kernel
theorem dL_pages_240 : decode cL_pages 240 = .ok (.ifCond .ne 7, 3) := by decide +kernel
theorem dL_pages_243 : decode cL_pages 243 = .ok (.iconst 1, 1) := by decide +kernel
theorem dL_pages_244 : decode cL_pages 244 = .ok (.goto 4, 3) := by decide +kernel
theorem dL_pages_247 : decode cL_pages 247 = .ok (.iconst 0, 1) := by decide +kernel
theorem dL_pages_248 : decode cL_pages 248 = .ok (.if_icmp .ne 14, 3) := by decide +kernel
theorem dL_pages_251 : decode cL_pages 251 = .ok (.iload 6, 2) := by decide +kernel
theorem dL_pages_253 : decode cL_pages 253 = .ok (.bipush 60, 2) := by decide +kernel
theorem dL_pages_255 : decode cL_pages 255 = .ok (.if_icmp .gt 7, 3) := by decide +kernel
theorem dL_pages_258 : decode cL_pages 258 = .ok (.iconst 1, 1) := by decide +kernel
theorem dL_pages_259 : decode cL_pages 259 = .ok (.goto 4, 3) := by decide +kernel
theorem dL_pages_262 : decode cL_pages 262 = .ok (.iconst 0, 1) := by decide +kernel
theorem dL_pages_263 : decode cL_pages 263 = .ok (.ireturn, 1) := by decide +kernel
theorem dL_sheets_0 : decode cL_sheets 0 = .ok (.iconst 0, 1) := by decide +kernel
theorem dL_sheets_1 : decode cL_sheets 1 = .ok (.istore_n 3, 1) := by decide +kernel
theorem dL_sheets_2 : decode cL_sheets 2 = .ok (.iconst 0, 1) := by decide +kernel
theorem dL_sheets_3 : decode cL_sheets 3 = .ok (.istore 4, 2) := by decide +kernel
theorem dL_sheets_5 : decode cL_sheets 5 = .ok (.iload 4, 2) := by decide +kernel
theorem dL_sheets_7 : decode cL_sheets 7 = .ok (.iload_n 2, 1) := by decide +kernel
theorem dL_sheets_8 : decode cL_sheets 8 = .ok (.if_icmp .ge 238, 3) := by decide +kernel
theorem dL_sheets_11 : decode cL_sheets 11 = .ok (.iconst 0, 1) := by decide +kernel
theorem dL_sheets_12 : decode cL_sheets 12 = .ok (.istore 5, 2) := by decide +kernel
theorem dL_sheets_14 : decode cL_sheets 14 = .ok (.iconst 0, 1) := by decide +kernel
theorem dL_sheets_15 : decode cL_sheets 15 = .ok (.istore 6, 2) := by decide +kernel
theorem dL_sheets_17 : decode cL_sheets 17 = .ok (.iconst 1, 1) := by decide +kernel
theorem dL_sheets_18 : decode cL_sheets 18 = .ok (.istore 7, 2) := by decide +kernel
theorem dL_sheets_20 : decode cL_sheets 20 = .ok (.iconst 0, 1) := by decide +kernel
theorem dL_sheets_21 : decode cL_sheets 21 = .ok (.istore 8, 2) := by decide +kernel
theorem dL_sheets_23 : decode cL_sheets 23 = .ok (.iload 8, 2) := by decide +kernel
theorem dL_sheets_25 : decode cL_sheets 25 = .ok (.iload_n 1, 1) := by decide +kernel
theorem dL_sheets_26 : decode cL_sheets 26 = .ok (.if_icmp .ge 71, 3) := by decide +kernel
theorem dL_sheets_29 : decode cL_sheets 29 = .ok (.aload_n 0, 1) := by decide +kernel
theorem dL_sheets_30 : decode cL_sheets 30 = .ok (.iload 4, 2) := by decide +kernel
theorem dL_sheets_32 : decode cL_sheets 32 = .ok (.iload 8, 2) := by decide +kernel
theorem dL_sheets_34 : decode cL_sheets 34 = .ok (.invokevirtual 72, 3) := by decide +kernel
theorem dL_sheets_37 : decode cL_sheets 37 = .ok (.istore 9, 2) := by decide +kernel
theorem dL_sheets_39 : decode cL_sheets 39 = .ok (.iload 5, 2) := by decide +kernel
theorem dL_sheets_41 : decode cL_sheets 41 = .ok (.iload 9, 2) := by decide +kernel
theorem dL_sheets_43 : decode cL_sheets 43 = .ok (.aload_n 0, 1) := by decide +kernel
theorem dL_sheets_44 : decode cL_sheets 44 = .ok (.iload 8, 2) := by decide +kernel
theorem dL_sheets_46 : decode cL_sheets 46 = .ok (.iconst 1, 1) := by decide +kernel
theorem dL_sheets_47 : decode cL_sheets 47 = .ok (.invokevirtual 29, 3) := by decide +kernel
theorem dL_sheets_50 : decode cL_sheets 50 = .ok (.if_icmp .ne 7, 3) := by decide +kernel
theorem dL_sheets_53 : decode cL_sheets 53 = .ok (.iconst 1, 1) := by decide +kernel
theorem dL_sheets_54 : decode cL_sheets 54 = .ok (.goto 4, 3) := by decide +kernel
theorem dL_sheets_57 : decode cL_sheets 57 = .ok (.iconst 0, 1) := by decide +kernel
theorem dL_sheets_58 : decode cL_sheets 58 = .ok (.iadd, 1) := by decide +kernel
theorem dL_sheets_59 : decode cL_sheets 59 = .ok (.istore 5, 2) := by decide +kernel
theorem dL_sheets_61 : decode cL_sheets 61 = .ok (.iload 6, 2) := by decide +kernel
theorem dL_sheets_63 : decode cL_sheets 63 = .ok (.iload 9, 2) := by decide +kernel
theorem dL_sheets_65 : decode cL_sheets 65 = .ok (.sipush (-1009), 3) := by decide +kernel
theorem dL_sheets_68 : decode cL_sheets 68 = .ok (.if_icmp .eq 19, 3) := by decide +kernel
theorem dL_sheets_71 : decode cL_sheets 71 = .ok (.iload 9, 2) := by decide +kernel
theorem dL_sheets_73 : decode cL_sheets 73 = .ok (.aload_n 0, 1) := by decide +kernel
theorem dL_sheets_74 : decode cL_sheets 74 = .ok (.iload 8, 2) := by decide +kernel
theorem dL_sheets_76 : decode cL_sheets 76 = .ok (.iconst 1, 1) := by decide +kernel
theorem dL_sheets_77 : decode cL_sheets 77 = .ok (.invokevirtual 29, 3) := by decide +kernel
theorem dL_sheets_80 : decode cL_sheets 80 = .ok (.if_icmp .eq 7, 3) := by decide +kernel
theorem dL_sheets_83 : decode cL_sheets 83 = .ok (.iconst 1, 1) := by decide +kernel
theorem dL_sheets_84 : decode cL_sheets 84 = .ok (.goto 4, 3) := by decide +kernel
theorem dL_sheets_87 : decode cL_sheets 87 = .ok (.iconst 0, 1) := by decide +kernel
theorem dL_sheets_88 : decode cL_sheets 88 = .ok (.iadd, 1) := by decide +kernel
theorem dL_sheets_89 : decode cL_sheets 89 = .ok (.istore 6, 2) := by decide +kernel
theorem dL_sheets_91 : decode cL_sheets 91 = .ok (.iinc 8 1, 3) := by decide +kernel
theorem dL_sheets_94 : decode cL_sheets 94 = .ok (.goto (-71), 3) := by decide +kernel
theorem dL_sheets_97 : decode cL_sheets 97 = .ok (.iconst 0, 1) := by decide +kernel
theorem dL_sheets_98 : decode cL_sheets 98 = .ok (.istore 8, 2) := by decide +kernel
theorem dL_sheets_100 : decode cL_sheets 100 = .ok (.iload 8, 2) := by decide +kernel
theorem dL_sheets_102 : decode cL_sheets 102 = .ok (.iload_n 2, 1) := by decide +kernel
theorem dL_sheets_103 : decode cL_sheets 103 = .ok (.if_icmp .ge 36, 3) := by decide +kernel
theorem dL_sheets_106 : decode cL_sheets 106 = .ok (.iload 7, 2) := by decide +kernel
theorem dL_sheets_108 : decode cL_sheets 108 = .ok (.aload_n 0, 1) := by decide +kernel
theorem dL_sheets_109 : decode cL_sheets 109 = .ok (.iload 8, 2) := by decide +kernel
theorem dL_sheets_111 : decode cL_sheets 111 = .ok (.iconst 1, 1) := by decide +kernel
theorem dL_sheets_112 : decode cL_sheets 112 = .ok (.invokevirtual 69, 3) := by decide +kernel
theorem dL_sheets_115 : decode cL_sheets 115 = .ok (.aload_n 0, 1) := by decide +kernel
theorem dL_sheets_116 : decode cL_sheets 116 = .ok (.iload 4, 2) := by decide +kernel
theorem dL_sheets_118 : decode cL_sheets 118 = .ok (.iconst 1, 1) := by decide +kernel
theorem dL_sheets_119 : decode cL_sheets 119 = .ok (.invokevirtual 69, 3) := by decide +kernel
theorem dL_sheets_122 : decode cL_sheets 122 = .ok (.if_icmp .le 7, 3) := by decide +kernel
theorem dL_sheets_125 : decode cL_sheets 125 = .ok (.iconst 1, 1) := by decide +kernel
theorem dL_sheets_126 : decode cL_sheets 126 = .ok (.goto 4, 3) := by decide +kernel
theorem dL_sheets_129 : decode cL_sheets 129 = .ok (.iconst 0, 1) := by decide +kernel
theorem dL_sheets_130 : decode cL_sheets 130 = .ok (.iadd, 1) := by decide +kernel
theorem dL_sheets_131 : decode cL_sheets 131 = .ok (.istore 7, 2) := by decide +kernel
theorem dL_sheets_133 : decode cL_sheets 133 = .ok (.iinc 8 1, 3) := by decide +kernel
theorem dL_sheets_136 : decode cL_sheets 136 = .ok (.goto (-36), 3) := by decide +kernel
theorem dL_sheets_139 : decode cL_sheets 139 = .ok (.aload_n 0, 1) := by decide +kernel
theorem dL_sheets_140 : decode cL_sheets 140 = .ok (.iload 4, 2) := by decide +kernel
theorem dL_sheets_142 : decode cL_sheets 142 = .ok (.iconst 1, 1) := by decide +kernel
theorem dL_sheets_143 : decode cL_sheets 143 = .ok (.invokevirtual 69, 3) := by decide +kernel
theorem dL_sheets_146 : decode cL_sheets 146 = .ok (.iconst 4, 1) := by decide +kernel
theorem dL_sheets_147 : decode cL_sheets 147 = .ok (.iload 5, 2) := by decide +kernel
theorem dL_sheets_149 : decode cL_sheets 149 = .ok (.imul, 1) := by decide +kernel
theorem dL_sheets_150 : decode cL_sheets 150 = .ok (.iload 6, 2) := by decide +kernel
theorem dL_sheets_152 : decode cL_sheets 152 = .ok (.isub, 1) := by decide +kernel
theorem dL_sheets_153 : decode cL_sheets 153 = .ok (.if_icmp .ne 75, 3) := by decide +kernel
theorem dL_sheets_156 : decode cL_sheets 156 = .ok (.aload_n 0, 1) := by decide +kernel
theorem dL_sheets_157 : decode cL_sheets 157 = .ok (.iload 4, 2) := by decide +kernel
theorem dL_sheets_159 : decode cL_sheets 159 = .ok (.iconst 2, 1) := by decide +kernel
theorem dL_sheets_160 : decode cL_sheets 160 = .ok (.invokevirtual 69, 3) := by decide +kernel
theorem dL_sheets_163 : decode cL_sheets 163 = .ok (.iload 5, 2) := by decide +kernel
theorem dL_sheets_165 : decode cL_sheets 165 = .ok (.if_icmp .ne 63, 3) := by decide +kernel
theorem dL_sheets_168 : decode cL_sheets 168 = .ok (.aload_n 0, 1) := by decide +kernel
theorem dL_sheets_169 : decode cL_sheets 169 = .ok (.iload 4, 2) := by decide +kernel
theorem dL_sheets_171 : decode cL_sheets 171 = .ok (.iconst 3, 1) := by decide +kernel
theorem dL_sheets_172 : decode cL_sheets 172 = .ok (.invokevirtual 69, 3) := by decide +kernel
theorem dL_sheets_175 : decode cL_sheets 175 = .ok (.iload 6, 2) := by decide +kernel
theorem dL_sheets_177 : decode cL_sheets 177 = .ok (.if_icmp .ne 51, 3) := by decide +kernel
theorem dL_sheets_180 : decode cL_sheets 180 = .ok (.aload_n 0, 1) := by decide +kernel
theorem dL_sheets_181 : decode cL_sheets 181 = .ok (.iload 4, 2) := by decide +kernel
theorem dL_sheets_183 : decode cL_sheets 183 = .ok (.iconst 4, 1) := by decide +kernel
theorem dL_sheets_184 : decode cL_sheets 184 = .ok (.invokevirtual 69, 3) := by decide +kernel
theorem dL_sheets_187 : decode cL_sheets 187 = .ok (.iload 7, 2) := by decide +kernel
theorem dL_sheets_189 : decode cL_sheets 189 = .ok (.if_icmp .ne 39, 3) := by decide +kernel
theorem dL_sheets_192 : decode cL_sheets 192 = .ok (.aload_n 0, 1) := by decide +kernel
theorem dL_sheets_193 : decode cL_sheets 193 = .ok (.iload 4, 2) := by decide +kernel
theorem dL_sheets_195 : decode cL_sheets 195 = .ok (.aload_n 0, 1) := by decide +kernel
theorem dL_sheets_196 : decode cL_sheets 196 = .ok (.iload 4, 2) := by decide +kernel
theorem dL_sheets_198 : decode cL_sheets 198 = .ok (.iconst 0, 1) := by decide +kernel
theorem dL_sheets_199 : decode cL_sheets 199 = .ok (.invokevirtual 69, 3) := by decide +kernel
theorem dL_sheets_202 : decode cL_sheets 202 = .ok (.invokevirtual 86, 3) := by decide +kernel
theorem dL_sheets_205 : decode cL_sheets 205 = .ok (.iconst 4, 1) := by decide +kernel
theorem dL_sheets_206 : decode cL_sheets 206 = .ok (.iload 5, 2) := by decide +kernel
theorem dL_sheets_208 : decode cL_sheets 208 = .ok (.imul, 1) := by decide +kernel
theorem dL_sheets_209 : decode cL_sheets 209 = .ok (.iload 6, 2) := by decide +kernel
theorem dL_sheets_211 : decode cL_sheets 211 = .ok (.isub, 1) := by decide +kernel
theorem dL_sheets_212 : decode cL_sheets 212 = .ok (.if_icmp .ne 16, 3) := by decide +kernel
theorem dL_sheets_215 : decode cL_sheets 215 = .ok (.aload_n 0, 1) := by decide +kernel
theorem dL_sheets_216 : decode cL_sheets 216 = .ok (.iload 4, 2) := by decide +kernel
theorem dL_sheets_218 : decode cL_sheets 218 = .ok (.iload 4, 2) := by decide +kernel
theorem dL_sheets_220 : decode cL_sheets 220 = .ok (.invokevirtual 83, 3) := by decide +kernel
theorem dL_sheets_223 : decode cL_sheets 223 = .ok (.iload 6, 2) := by decide +kernel
theorem dL_sheets_225 : decode cL_sheets 225 = .ok (.if_icmp .eq 5, 3) := by decide +kernel
theorem dL_sheets_228 : decode cL_sheets 228 = .ok (.iconst 0, 1) := by decide +kernel
theorem dL_sheets_229 : decode cL_sheets 229 = .ok (.ireturn, 1) := by decide +kernel
theorem dL_sheets_230 : decode cL_sheets 230 = .ok (.iload_n 3, 1) := by decide +kernel
theorem dL_sheets_231 : decode cL_sheets 231 = .ok (.iconst 4, 1) := by decide +kernel
theorem dL_sheets_232 : decode cL_sheets 232 = .ok (.iload 5, 2) := by decide +kernel
theorem dL_sheets_234 : decode cL_sheets 234 = .ok (.imul, 1) := by decide +kernel
theorem dL_sheets_235 : decode cL_sheets 235 = .ok (.iload 6, 2) := by decide +kernel
theorem dL_sheets_237 : decode cL_sheets 237 = .ok (.isub, 1) := by decide +kernel
theorem dL_sheets_238 : decode cL_sheets 238 = .ok (.iadd, 1) := by decide +kernel
theorem dL_sheets_239 : decode cL_sheets 239 = .ok (.istore_n 3, 1) := by decide +kernel
theorem dL_sheets_240 : decode cL_sheets 240 = .ok (.iinc 4 1, 3) := by decide +kernel
theorem dL_sheets_243 : decode cL_sheets 243 = .ok (.goto (-238), 3) := by decide +kernel
theorem dL_sheets_246 : decode cL_sheets 246 = .ok (.iconst 0, 1) := by decide +kernel
theorem dL_sheets_247 : decode cL_sheets 247 = .ok (.istore 4, 2) := by decide +kernel
theorem dL_sheets_249 : decode cL_sheets 249 = .ok (.iload 4, 2) := by decide +kernel
theorem dL_sheets_251 : decode cL_sheets 251 = .ok (.iload_n 1, 1) := by decide +kernel
theorem dL_sheets_252 : decode cL_sheets 252 = .ok (.if_icmp .ge 113, 3) := by decide +kernel
theorem dL_sheets_255 : decode cL_sheets 255 = .ok (.aload_n 0, 1) := by decide +kernel
theorem dL_sheets_256 : decode cL_sheets 256 = .ok (.iload 4, 2) := by decide +kernel
theorem dL_sheets_258 : decode cL_sheets 258 = .ok (.iconst 3, 1) := by decide +kernel
theorem dL_sheets_259 : decode cL_sheets 259 = .ok (.invokevirtual 75, 3) := by decide +kernel
theorem dL_sheets_262 : decode cL_sheets 262 = .ok (.istore 5, 2) := by decide +kernel
theorem dL_sheets_264 : decode cL_sheets 264 = .ok (.aload_n 0, 1) := by decide +kernel
theorem dL_sheets_265 : decode cL_sheets 265 = .ok (.iload 4, 2) := by decide +kernel
theorem dL_sheets_267 : decode cL_sheets 267 = .ok (.iconst 0, 1) := by decide +kernel
theorem dL_sheets_268 : decode cL_sheets 268 = .ok (.invokevirtual 75, 3) := by decide +kernel
theorem dL_sheets_271 : decode cL_sheets 271 = .ok (.aload_n 0, 1) := by decide +kernel
theorem dL_sheets_272 : decode cL_sheets 272 = .ok (.iload 4, 2) := by decide +kernel
theorem dL_sheets_274 : decode cL_sheets 274 = .ok (.iconst 1, 1) := by decide +kernel
theorem dL_sheets_275 : decode cL_sheets 275 = .ok (.invokevirtual 75, 3) := by decide +kernel
theorem dL_sheets_278 : decode cL_sheets 278 = .ok (.iadd, 1) := by decide +kernel
theorem dL_sheets_279 : decode cL_sheets 279 = .ok (.aload_n 0, 1) := by decide +kernel
theorem dL_sheets_280 : decode cL_sheets 280 = .ok (.iload 4, 2) := by decide +kernel
theorem dL_sheets_282 : decode cL_sheets 282 = .ok (.iconst 2, 1) := by decide +kernel
theorem dL_sheets_283 : decode cL_sheets 283 = .ok (.invokevirtual 75, 3) := by decide +kernel
theorem dL_sheets_286 : decode cL_sheets 286 = .ok (.iadd, 1) := by decide +kernel
theorem dL_sheets_287 : decode cL_sheets 287 = .ok (.iload_n 2, 1) := by decide +kernel
theorem dL_sheets_288 : decode cL_sheets 288 = .ok (.if_icmp .ne 69, 3) := by decide +kernel
theorem dL_sheets_291 : decode cL_sheets 291 = .ok (.iload 5, 2) := by decide +kernel
theorem dL_sheets_293 : decode cL_sheets 293 = .ok (.sipush (-1009), 3) := by decide +kernel
theorem dL_sheets_296 : decode cL_sheets 296 = .ok (.if_icmp .ne 7, 3) := by decide +kernel
theorem dL_sheets_299 : decode cL_sheets 299 = .ok (.iconst 1, 1) := by decide +kernel
theorem dL_sheets_300 : decode cL_sheets 300 = .ok (.goto 4, 3) := by decide +kernel
theorem dL_sheets_303 : decode cL_sheets 303 = .ok (.iconst 0, 1) := by decide +kernel
theorem dL_sheets_304 : decode cL_sheets 304 = .ok (.aload_n 0, 1) := by decide +kernel
theorem dL_sheets_305 : decode cL_sheets 305 = .ok (.iload 4, 2) := by decide +kernel
theorem dL_sheets_307 : decode cL_sheets 307 = .ok (.iconst 1, 1) := by decide +kernel
theorem dL_sheets_308 : decode cL_sheets 308 = .ok (.invokevirtual 75, 3) := by decide +kernel
theorem dL_sheets_311 : decode cL_sheets 311 = .ok (.ifCond .ne 7, 3) := by decide +kernel
theorem dL_sheets_314 : decode cL_sheets 314 = .ok (.iconst 1, 1) := by decide +kernel
theorem dL_sheets_315 : decode cL_sheets 315 = .ok (.goto 4, 3) := by decide +kernel
theorem dL_sheets_318 : decode cL_sheets 318 = .ok (.iconst 0, 1) := by decide +kernel
theorem dL_sheets_319 : decode cL_sheets 319 = .ok (.if_icmp .ne 38, 3) := by decide +kernel
theorem dL_sheets_322 : decode cL_sheets 322 = .ok (.iload 5, 2) := by decide +kernel
theorem dL_sheets_324 : decode cL_sheets 324 = .ok (.aload_n 0, 1) := by decide +kernel
theorem dL_sheets_325 : decode cL_sheets 325 = .ok (.iload 4, 2) := by decide +kernel
theorem dL_sheets_327 : decode cL_sheets 327 = .ok (.iconst 1, 1) := by decide +kernel
theorem dL_sheets_328 : decode cL_sheets 328 = .ok (.invokevirtual 29, 3) := by decide +kernel
theorem dL_sheets_331 : decode cL_sheets 331 = .ok (.if_icmp .eq 26, 3) := by decide +kernel
theorem dL_sheets_334 : decode cL_sheets 334 = .ok (.aload_n 0, 1) := by decide +kernel
theorem dL_sheets_335 : decode cL_sheets 335 = .ok (.iload 4, 2) := by decide +kernel
theorem dL_sheets_337 : decode cL_sheets 337 = .ok (.invokevirtual 78, 3) := by decide +kernel
theorem dL_sheets_340 : decode cL_sheets 340 = .ok (.fconst 1, 1) := by decide +kernel
theorem dL_sheets_341 : decode cL_sheets 341 = .ok (.fcmp .l, 1) := by decide +kernel
theorem dL_sheets_342 : decode cL_sheets 342 = .ok (.ifCond .gt 15, 3) := by decide +kernel
theorem dL_sheets_345 : decode cL_sheets 345 = .ok (.aload_n 0, 1) := by decide +kernel
theorem dL_sheets_346 : decode cL_sheets 346 = .ok (.iload 4, 2) := by decide +kernel
theorem dL_sheets_348 : decode cL_sheets 348 = .ok (.invokevirtual 78, 3) := by decide +kernel
theorem dL_sheets_351 : decode cL_sheets 351 = .ok (.ldc 100, 2) := by decide +kernel
theorem dL_sheets_353 : decode cL_sheets 353 = .ok (.fcmp .g, 1) := by decide +kernel
theorem dL_sheets_354 : decode cL_sheets 354 = .ok (.ifCond .ge 5, 3) := by decide +kernel
theorem dL_sheets_357 : decode cL_sheets 357 = .ok (.iconst 0, 1) := by decide +kernel
theorem dL_sheets_358 : decode cL_sheets 358 = .ok (.ireturn, 1) := by decide +kernel
theorem dL_sheets_359 : decode cL_sheets 359 = .ok (.iinc 4 1, 3) := by decide +kernel
theorem dL_sheets_362 : decode cL_sheets 362 = .ok (.goto (-113), 3) := by decide +kernel
theorem dL_sheets_365 : decode cL_sheets 365 = .ok (.aload_n 0, 1) := by decide +kernel
theorem dL_sheets_366 : decode cL_sheets 366 = .ok (.invokevirtual 101, 3) := by decide +kernel
theorem dL_sheets_369 : decode cL_sheets 369 = .ok (.istore 4, 2) := by decide +kernel
theorem dL_sheets_371 : decode cL_sheets 371 = .ok (.iload_n 2, 1) := by decide +kernel
theorem dL_sheets_372 : decode cL_sheets 372 = .ok (.ifCond .ne 7, 3) := by decide +kernel
theorem dL_sheets_375 : decode cL_sheets 375 = .ok (.fconst 0, 1) := by decide +kernel
theorem dL_sheets_376 : decode cL_sheets 376 = .ok (.goto 8, 3) := by decide +kernel
theorem dL_sheets_379 : decode cL_sheets 379 = .ok (.iload_n 3, 1) := by decide +kernel
theorem dL_sheets_380 : decode cL_sheets 380 = .ok (.i2f, 1) := by decide +kernel
theorem dL_sheets_381 : decode cL_sheets 381 = .ok (.iload_n 2, 1) := by decide +kernel
theorem dL_sheets_382 : decode cL_sheets 382 = .ok (.i2f, 1) := by decide +kernel
theorem dL_sheets_383 : decode cL_sheets 383 = .ok (.fdiv, 1) := by decide +kernel
theorem dL_sheets_384 : decode cL_sheets 384 = .ok (.fstore 5, 2) := by decide +kernel
theorem dL_sheets_386 : decode cL_sheets 386 = .ok (.aload_n 0, 1) := by decide +kernel
theorem dL_sheets_387 : decode cL_sheets 387 = .ok (.invokevirtual 105, 3) := by decide +kernel
theorem dL_sheets_390 : decode cL_sheets 390 = .ok (.fload 5, 2) := by decide +kernel
theorem dL_sheets_392 : decode cL_sheets 392 = .ok (.fcmp .l, 1) := by decide +kernel
theorem dL_sheets_393 : decode cL_sheets 393 = .ok (.ifCond .ne 51, 3) := by decide +kernel
theorem dL_sheets_396 : decode cL_sheets 396 = .ok (.iload_n 2, 1) := by decide +kernel
theorem dL_sheets_397 : decode cL_sheets 397 = .ok (.iconst 2, 1) := by decide +kernel
theorem dL_sheets_398 : decode cL_sheets 398 = .ok (.if_icmp .ge 14, 3) := by decide +kernel
theorem dL_sheets_401 : decode cL_sheets 401 = .ok (.iload 4, 2) := by decide +kernel
theorem dL_sheets_403 : decode cL_sheets 403 = .ok (.sipush (-1009), 3) := by decide +kernel
theorem dL_sheets_406 : decode cL_sheets 406 = .ok (.if_icmp .ne 38, 3) := by decide +kernel
theorem dL_sheets_409 : decode cL_sheets 409 = .ok (.goto 31, 3) := by decide +kernel
theorem dL_sheets_412 : decode cL_sheets 412 = .ok (.iload 4, 2) := by decide +kernel
theorem dL_sheets_414 : decode cL_sheets 414 = .ok (.iconst 1, 1) := by decide +kernel
theorem dL_sheets_415 : decode cL_sheets 415 = .ok (.if_icmp .lt 29, 3) := by decide +kernel
theorem dL_sheets_418 : decode cL_sheets 418 = .ok (.iload 4, 2) := by decide +kernel
theorem dL_sheets_420 : decode cL_sheets 420 = .ok (.bipush 100, 2) := by decide +kernel
theorem dL_sheets_422 : decode cL_sheets 422 = .ok (.idiv, 1) := by decide +kernel
theorem dL_sheets_423 : decode cL_sheets 423 = .ok (.iload 4, 2) := by decide +kernel
theorem dL_sheets_425 : decode cL_sheets 425 = .ok (.bipush 100, 2) := by decide +kernel
theorem dL_sheets_427 : decode cL_sheets 427 = .ok (.irem, 1) := by decide +kernel
theorem dL_sheets_428 : decode cL_sheets 428 = .ok (.if_icmp .ge 16, 3) := by decide +kernel
theorem dL_sheets_431 : decode cL_sheets 431 = .ok (.iload 4, 2) := by decide +kernel
theorem dL_sheets_433 : decode cL_sheets 433 = .ok (.bipush 100, 2) := by decide +kernel
theorem dL_sheets_435 : decode cL_sheets 435 = .ok (.irem, 1) := by decide +kernel
theorem dL_sheets_436 : decode cL_sheets 436 = .ok (.iload_n 2, 1) := by decide +kernel
theorem dL_sheets_437 : decode cL_sheets 437 = .ok (.if_icmp .ge 7, 3) := by decide +kernel
theorem dL_sheets_440 : decode cL_sheets 440 = .ok (.iconst 1, 1) := by decide +kernel
theorem dL_sheets_441 : decode cL_sheets 441 = .ok (.goto 4, 3) := by decide +kernel
theorem dL_sheets_444 : decode cL_sheets 444 = .ok (.iconst 0, 1) := by decide +kernel
theorem dL_sheets_445 : decode cL_sheets 445 = .ok (.ireturn, 1) := by decide +kernel
theorem dL_law_0 : decode cL_law 0 = .ok (.new 10, 3) := by decide +kernel
theorem dL_law_3 : decode cL_law 3 = .ok (.dup, 1) := by decide +kernel
theorem dL_law_4 : decode cL_law 4 = .ok (.invokespecial 109, 3) := by decide +kernel
theorem dL_law_7 : decode cL_law 7 = .ok (.astore_n 1, 1) := by decide +kernel
theorem dL_law_8 : decode cL_law 8 = .ok (.aload_n 1, 1) := by decide +kernel
theorem dL_law_9 : decode cL_law 9 = .ok (.invokevirtual 110, 3) := by decide +kernel
theorem dL_law_12 : decode cL_law 12 = .ok (.sipush (-1009), 3) := by decide +kernel
theorem dL_law_15 : decode cL_law 15 = .ok (.if_icmp .ne 85, 3) := by decide +kernel
theorem dL_law_18 : decode cL_law 18 = .ok (.aload_n 1, 1) := by decide +kernel
theorem dL_law_19 : decode cL_law 19 = .ok (.invokevirtual 113, 3) := by decide +kernel
theorem dL_law_22 : decode cL_law 22 = .ok (.ifCond .ne 78, 3) := by decide +kernel
theorem dL_law_25 : decode cL_law 25 = .ok (.aload_n 1, 1) := by decide +kernel
theorem dL_law_26 : decode cL_law 26 = .ok (.invokevirtual 116, 3) := by decide +kernel
theorem dL_law_29 : decode cL_law 29 = .ok (.ifCond .ne 71, 3) := by decide +kernel
theorem dL_law_32 : decode cL_law 32 = .ok (.aload_n 1, 1) := by decide +kernel
theorem dL_law_33 : decode cL_law 33 = .ok (.invokevirtual 92, 3) := by decide +kernel
theorem dL_law_36 : decode cL_law 36 = .ok (.ldc2_w 95, 3) := by decide +kernel
theorem dL_law_39 : decode cL_law 39 = .ok (.lcmp, 1) := by decide +kernel
theorem dL_law_40 : decode cL_law 40 = .ok (.ifCond .ne 60, 3) := by decide +kernel
theorem dL_law_43 : decode cL_law 43 = .ok (.aload_n 1, 1) := by decide +kernel
theorem dL_law_44 : decode cL_law 44 = .ok (.invokevirtual 119, 3) := by decide +kernel
theorem dL_law_47 : decode cL_law 47 = .ok (.ifCond .ne 53, 3) := by decide +kernel
theorem dL_law_50 : decode cL_law 50 = .ok (.aload_n 1, 1) := by decide +kernel
theorem dL_law_51 : decode cL_law 51 = .ok (.invokevirtual 110, 3) := by decide +kernel
theorem dL_law_54 : decode cL_law 54 = .ok (.ifCond .ne 46, 3) := by decide +kernel
theorem dL_law_57 : decode cL_law 57 = .ok (.aload_n 1, 1) := by decide +kernel
theorem dL_law_58 : decode cL_law 58 = .ok (.invokevirtual 101, 3) := by decide +kernel
theorem dL_law_61 : decode cL_law 61 = .ok (.sipush (-1009), 3) := by decide +kernel
theorem dL_law_64 : decode cL_law 64 = .ok (.if_icmp .ne 36, 3) := by decide +kernel
theorem dL_law_67 : decode cL_law 67 = .ok (.aload_n 1, 1) := by decide +kernel
theorem dL_law_68 : decode cL_law 68 = .ok (.invokevirtual 105, 3) := by decide +kernel
theorem dL_law_71 : decode cL_law 71 = .ok (.fconst 0, 1) := by decide +kernel
theorem dL_law_72 : decode cL_law 72 = .ok (.fcmp .l, 1) := by decide +kernel
theorem dL_law_73 : decode cL_law 73 = .ok (.ifCond .ne 27, 3) := by decide +kernel
theorem dL_law_76 : decode cL_law 76 = .ok (.aload_n 1, 1) := by decide +kernel
theorem dL_law_77 : decode cL_law 77 = .ok (.bipush 7, 2) := by decide +kernel
theorem dL_law_79 : decode cL_law 79 = .ok (.iconst 3, 1) := by decide +kernel
theorem dL_law_80 : decode cL_law 80 = .ok (.invokevirtual 45, 3) := by decide +kernel
theorem dL_law_83 : decode cL_law 83 = .ok (.ldc2_w 122, 3) := by decide +kernel
theorem dL_law_86 : decode cL_law 86 = .ok (.lcmp, 1) := by decide +kernel
theorem dL_law_87 : decode cL_law 87 = .ok (.ifCond .ne 13, 3) := by decide +kernel
theorem dL_law_90 : decode cL_law 90 = .ok (.aload_n 1, 1) := by decide +kernel
theorem dL_law_91 : decode cL_law 91 = .ok (.iconst 0, 1) := by decide +kernel
theorem dL_law_92 : decode cL_law 92 = .ok (.iconst 0, 1) := by decide +kernel
theorem dL_law_93 : decode cL_law 93 = .ok (.iconst 0, 1) := by decide +kernel
theorem dL_law_94 : decode cL_law 94 = .ok (.invokestatic 124, 3) := by decide +kernel
theorem dL_law_97 : decode cL_law 97 = .ok (.ifCond .ne 5, 3) := by decide +kernel
theorem dL_law_100 : decode cL_law 100 = .ok (.iconst 0, 1) := by decide +kernel
theorem dL_law_101 : decode cL_law 101 = .ok (.ireturn, 1) := by decide +kernel
theorem dL_law_102 : decode cL_law 102 = .ok (.iconst 1, 1) := by decide +kernel
theorem dL_law_103 : decode cL_law 103 = .ok (.aload_n 0, 1) := by decide +kernel
theorem dL_law_104 : decode cL_law 104 = .ok (.iconst 0, 1) := by decide +kernel
theorem dL_law_105 : decode cL_law 105 = .ok (.invokestatic 128, 3) := by decide +kernel
theorem dL_law_108 : decode cL_law 108 = .ok (.bipush 14, 2) := by decide +kernel
theorem dL_law_110 : decode cL_law 110 = .ok (.invokestatic 132, 3) := by decide +kernel
theorem dL_law_113 : decode cL_law 113 = .ok (.iadd, 1) := by decide +kernel
theorem dL_law_114 : decode cL_law 114 = .ok (.istore_n 2, 1) := by decide +kernel
theorem dL_law_115 : decode cL_law 115 = .ok (.iconst 0, 1) := by decide +kernel
theorem dL_law_116 : decode cL_law 116 = .ok (.istore_n 3, 1) := by decide +kernel
theorem dL_law_117 : decode cL_law 117 = .ok (.iload_n 3, 1) := by decide +kernel
theorem dL_law_118 : decode cL_law 118 = .ok (.iload_n 2, 1) := by decide +kernel
theorem dL_law_119 : decode cL_law 119 = .ok (.if_icmp .ge 219, 3) := by decide +kernel
theorem dL_law_122 : decode cL_law 122 = .ok (.aload_n 0, 1) := by decide +kernel
theorem dL_law_123 : decode cL_law 123 = .ok (.iconst 1, 1) := by decide +kernel
theorem dL_law_124 : decode cL_law 124 = .ok (.iload_n 3, 1) := by decide +kernel
theorem dL_law_125 : decode cL_law 125 = .ok (.iadd, 1) := by decide +kernel
theorem dL_law_126 : decode cL_law 126 = .ok (.invokestatic 128, 3) := by decide +kernel
theorem dL_law_129 : decode cL_law 129 = .ok (.istore 4, 2) := by decide +kernel
theorem dL_law_131 : decode cL_law 131 = .ok (.iconst 2, 1) := by decide +kernel
theorem dL_law_132 : decode cL_law 132 = .ok (.iload 4, 2) := by decide +kernel
theorem dL_law_134 : decode cL_law 134 = .ok (.iconst 4, 1) := by decide +kernel
theorem dL_law_135 : decode cL_law 135 = .ok (.invokestatic 132, 3) := by decide +kernel
theorem dL_law_138 : decode cL_law 138 = .ok (.iadd, 1) := by decide +kernel
theorem dL_law_139 : decode cL_law 139 = .ok (.istore 5, 2) := by decide +kernel
theorem dL_law_141 : decode cL_law 141 = .ok (.aload_n 1, 1) := by decide +kernel
theorem dL_law_142 : decode cL_law 142 = .ok (.invokevirtual 9, 3) := by decide +kernel
theorem dL_law_145 : decode cL_law 145 = .ok (.lstore 6, 2) := by decide +kernel
theorem dL_law_147 : decode cL_law 147 = .ok (.aload_n 1, 1) := by decide +kernel
theorem dL_law_148 : decode cL_law 148 = .ok (.iconst 1, 1) := by decide +kernel
theorem dL_law_149 : decode cL_law 149 = .ok (.iload 4, 2) := by decide +kernel
theorem dL_law_151 : decode cL_law 151 = .ok (.iconst 2, 1) := by decide +kernel
theorem dL_law_152 : decode cL_law 152 = .ok (.ishr, 1) := by decide +kernel
theorem dL_law_153 : decode cL_law 153 = .ok (.bipush 9, 2) := by decide +kernel
theorem dL_law_155 : decode cL_law 155 = .ok (.invokestatic 132, 3) := by decide +kernel
theorem dL_law_158 : decode cL_law 158 = .ok (.iadd, 1) := by decide +kernel
theorem dL_law_159 : decode cL_law 159 = .ok (.iload 5, 2) := by decide +kernel
theorem dL_law_161 : decode cL_law 161 = .ok (.iload 4, 2) := by decide +kernel
theorem dL_law_163 : decode cL_law 163 = .ok (.bipush 6, 2) := by decide +kernel
theorem dL_law_165 : decode cL_law 165 = .ok (.ishr, 1) := by decide +kernel
theorem dL_law_166 : decode cL_law 166 = .ok (.iload 5, 2) := by decide +kernel
theorem dL_law_168 : decode cL_law 168 = .ok (.invokestatic 132, 3) := by decide +kernel
theorem dL_law_171 : decode cL_law 171 = .ok (.iload 4, 2) := by decide +kernel
theorem dL_law_173 : decode cL_law 173 = .ok (.bipush 9, 2) := by decide +kernel
theorem dL_law_175 : decode cL_law 175 = .ok (.ishr, 1) := by decide +kernel
theorem dL_law_176 : decode cL_law 176 = .ok (.iconst 4, 1) := by decide +kernel
theorem dL_law_177 : decode cL_law 177 = .ok (.invokestatic 132, 3) := by decide +kernel
theorem dL_law_180 : decode cL_law 180 = .ok (.ifCond .ne 18, 3) := by decide +kernel
theorem dL_law_183 : decode cL_law 183 = .ok (.iload 4, 2) := by decide +kernel
theorem dL_law_185 : decode cL_law 185 = .ok (.bipush 11, 2) := by decide +kernel
theorem dL_law_187 : decode cL_law 187 = .ok (.ishr, 1) := by decide +kernel
theorem dL_law_188 : decode cL_law 188 = .ok (.iconst 1, 1) := by decide +kernel
theorem dL_law_189 : decode cL_law 189 = .ok (.iload 5, 2) := by decide +kernel
theorem dL_law_191 : decode cL_law 191 = .ok (.ishl, 1) := by decide +kernel
theorem dL_law_192 : decode cL_law 192 = .ok (.invokestatic 132, 3) := by decide +kernel
theorem dL_law_195 : decode cL_law 195 = .ok (.goto 4, 3) := by decide +kernel
theorem dL_law_198 : decode cL_law 198 = .ok (.iconst 0, 1) := by decide +kernel
theorem dL_law_199 : decode cL_law 199 = .ok (.iload 4, 2) := by decide +kernel
theorem dL_law_201 : decode cL_law 201 = .ok (.bipush 16, 2) := by decide +kernel
theorem dL_law_203 : decode cL_law 203 = .ok (.ishr, 1) := by decide +kernel
theorem dL_law_204 : decode cL_law 204 = .ok (.iconst 1, 1) := by decide +kernel
theorem dL_law_205 : decode cL_law 205 = .ok (.iand, 1) := by decide +kernel
theorem dL_law_206 : decode cL_law 206 = .ok (.ifCond .ne 7, 3) := by decide +kernel
theorem dL_law_209 : decode cL_law 209 = .ok (.iconst 0, 1) := by decide +kernel
theorem dL_law_210 : decode cL_law 210 = .ok (.goto 13, 3) := by decide +kernel
theorem dL_law_213 : decode cL_law 213 = .ok (.iload 4, 2) := by decide +kernel
theorem dL_law_215 : decode cL_law 215 = .ok (.bipush 17, 2) := by decide +kernel
theorem dL_law_217 : decode cL_law 217 = .ok (.ishr, 1) := by decide +kernel
theorem dL_law_218 : decode cL_law 218 = .ok (.bipush 6, 2) := by decide +kernel
theorem dL_law_220 : decode cL_law 220 = .ok (.invokestatic 132, 3) := by decide +kernel
theorem dL_law_223 : decode cL_law 223 = .ok (.invokevirtual 15, 3) := by decide +kernel
theorem dL_law_226 : decode cL_law 226 = .ok (.iload_n 3, 1) := by decide +kernel
theorem dL_law_227 : decode cL_law 227 = .ok (.if_icmp .ne 103, 3) := by decide +kernel
theorem dL_law_230 : decode cL_law 230 = .ok (.aload_n 1, 1) := by decide +kernel
theorem dL_law_231 : decode cL_law 231 = .ok (.invokevirtual 110, 3) := by decide +kernel
theorem dL_law_234 : decode cL_law 234 = .ok (.ifCond .lt 96, 3) := by decide +kernel
theorem dL_law_237 : decode cL_law 237 = .ok (.aload_n 1, 1) := by decide +kernel
theorem dL_law_238 : decode cL_law 238 = .ok (.invokevirtual 9, 3) := by decide +kernel
theorem dL_law_241 : decode cL_law 241 = .ok (.lload 6, 2) := by decide +kernel
theorem dL_law_243 : decode cL_law 243 = .ok (.lcmp, 1) := by decide +kernel
theorem dL_law_244 : decode cL_law 244 = .ok (.ifCond .ne 86, 3) := by decide +kernel
theorem dL_law_247 : decode cL_law 247 = .ok (.aload_n 1, 1) := by decide +kernel
theorem dL_law_248 : decode cL_law 248 = .ok (.iconst 1, 1) := by decide +kernel
theorem dL_law_249 : decode cL_law 249 = .ok (.iload 4, 2) := by decide +kernel
theorem dL_law_251 : decode cL_law 251 = .ok (.iconst 2, 1) := by decide +kernel
theorem dL_law_252 : decode cL_law 252 = .ok (.ishr, 1) := by decide +kernel
theorem dL_law_253 : decode cL_law 253 = .ok (.bipush 9, 2) := by decide +kernel
theorem dL_law_255 : decode cL_law 255 = .ok (.invokestatic 132, 3) := by decide +kernel
theorem dL_law_258 : decode cL_law 258 = .ok (.iadd, 1) := by decide +kernel
theorem dL_law_259 : decode cL_law 259 = .ok (.iload 5, 2) := by decide +kernel
theorem dL_law_261 : decode cL_law 261 = .ok (.iload 4, 2) := by decide +kernel
theorem dL_law_263 : decode cL_law 263 = .ok (.bipush 6, 2) := by decide +kernel
theorem dL_law_265 : decode cL_law 265 = .ok (.ishr, 1) := by decide +kernel
theorem dL_law_266 : decode cL_law 266 = .ok (.iload 5, 2) := by decide +kernel
theorem dL_law_268 : decode cL_law 268 = .ok (.invokestatic 132, 3) := by decide +kernel
theorem dL_law_271 : decode cL_law 271 = .ok (.iload 4, 2) := by decide +kernel
theorem dL_law_273 : decode cL_law 273 = .ok (.bipush 9, 2) := by decide +kernel
theorem dL_law_275 : decode cL_law 275 = .ok (.ishr, 1) := by decide +kernel
theorem dL_law_276 : decode cL_law 276 = .ok (.iconst 4, 1) := by decide +kernel
theorem dL_law_277 : decode cL_law 277 = .ok (.invokestatic 132, 3) := by decide +kernel
theorem dL_law_280 : decode cL_law 280 = .ok (.ifCond .ne 18, 3) := by decide +kernel
theorem dL_law_283 : decode cL_law 283 = .ok (.iload 4, 2) := by decide +kernel
theorem dL_law_285 : decode cL_law 285 = .ok (.bipush 11, 2) := by decide +kernel
theorem dL_law_287 : decode cL_law 287 = .ok (.ishr, 1) := by decide +kernel
theorem dL_law_288 : decode cL_law 288 = .ok (.iconst 1, 1) := by decide +kernel
theorem dL_law_289 : decode cL_law 289 = .ok (.iload 5, 2) := by decide +kernel
theorem dL_law_291 : decode cL_law 291 = .ok (.ishl, 1) := by decide +kernel
theorem dL_law_292 : decode cL_law 292 = .ok (.invokestatic 132, 3) := by decide +kernel
theorem dL_law_295 : decode cL_law 295 = .ok (.goto 4, 3) := by decide +kernel
theorem dL_law_298 : decode cL_law 298 = .ok (.iconst 0, 1) := by decide +kernel
theorem dL_law_299 : decode cL_law 299 = .ok (.iload 4, 2) := by decide +kernel
theorem dL_law_301 : decode cL_law 301 = .ok (.bipush 16, 2) := by decide +kernel
theorem dL_law_303 : decode cL_law 303 = .ok (.ishr, 1) := by decide +kernel
theorem dL_law_304 : decode cL_law 304 = .ok (.iconst 1, 1) := by decide +kernel
theorem dL_law_305 : decode cL_law 305 = .ok (.iand, 1) := by decide +kernel
theorem dL_law_306 : decode cL_law 306 = .ok (.ifCond .ne 7, 3) := by decide +kernel
theorem dL_law_309 : decode cL_law 309 = .ok (.iconst 0, 1) := by decide +kernel
theorem dL_law_310 : decode cL_law 310 = .ok (.goto 13, 3) := by decide +kernel
theorem dL_law_313 : decode cL_law 313 = .ok (.iload 4, 2) := by decide +kernel
theorem dL_law_315 : decode cL_law 315 = .ok (.bipush 17, 2) := by decide +kernel
theorem dL_law_317 : decode cL_law 317 = .ok (.ishr, 1) := by decide +kernel
theorem dL_law_318 : decode cL_law 318 = .ok (.bipush 6, 2) := by decide +kernel
theorem dL_law_320 : decode cL_law 320 = .ok (.invokestatic 132, 3) := by decide +kernel
theorem dL_law_323 : decode cL_law 323 = .ok (.invokevirtual 15, 3) := by decide +kernel
theorem dL_law_326 : decode cL_law 326 = .ok (.iload_n 3, 1) := by decide +kernel
theorem dL_law_327 : decode cL_law 327 = .ok (.if_icmp .eq 5, 3) := by decide +kernel
theorem dL_law_330 : decode cL_law 330 = .ok (.iconst 0, 1) := by decide +kernel
theorem dL_law_331 : decode cL_law 331 = .ok (.ireturn, 1) := by decide +kernel
theorem dL_law_332 : decode cL_law 332 = .ok (.iinc 3 1, 3) := by decide +kernel
theorem dL_law_335 : decode cL_law 335 = .ok (.goto (-218), 3) := by decide +kernel
theorem dL_law_338 : decode cL_law 338 = .ok (.iconst 1, 1) := by decide +kernel
theorem dL_law_339 : decode cL_law 339 = .ok (.aload_n 0, 1) := by decide +kernel
theorem dL_law_340 : decode cL_law 340 = .ok (.bipush 15, 2) := by decide +kernel
theorem dL_law_342 : decode cL_law 342 = .ok (.invokestatic 128, 3) := by decide +kernel
theorem dL_law_345 : decode cL_law 345 = .ok (.iconst 3, 1) := by decide +kernel
theorem dL_law_346 : decode cL_law 346 = .ok (.invokestatic 132, 3) := by decide +kernel
theorem dL_law_349 : decode cL_law 349 = .ok (.iadd, 1) := by decide +kernel
theorem dL_law_350 : decode cL_law 350 = .ok (.istore_n 3, 1) := by decide +kernel
theorem dL_law_351 : decode cL_law 351 = .ok (.aload_n 1, 1) := by decide +kernel
theorem dL_law_352 : decode cL_law 352 = .ok (.bipush 9, 2) := by decide +kernel
theorem dL_law_354 : decode cL_law 354 = .ok (.aload_n 0, 1) := by decide +kernel
theorem dL_law_355 : decode cL_law 355 = .ok (.bipush 15, 2) := by decide +kernel
theorem dL_law_357 : decode cL_law 357 = .ok (.invokestatic 128, 3) := by decide +kernel
theorem dL_law_360 : decode cL_law 360 = .ok (.iconst 3, 1) := by decide +kernel
theorem dL_law_361 : decode cL_law 361 = .ok (.ishr, 1) := by decide +kernel
theorem dL_law_362 : decode cL_law 362 = .ok (.bipush 40, 2) := by decide +kernel
theorem dL_law_364 : decode cL_law 364 = .ok (.invokestatic 132, 3) := by decide +kernel
theorem dL_law_367 : decode cL_law 367 = .ok (.iadd, 1) := by decide +kernel
theorem dL_law_368 : decode cL_law 368 = .ok (.invokevirtual 51, 3) := by decide +kernel
theorem dL_law_371 : decode cL_law 371 = .ok (.bipush 30, 2) := by decide +kernel
theorem dL_law_373 : decode cL_law 373 = .ok (.if_icmp .eq 5, 3) := by decide +kernel
theorem dL_law_376 : decode cL_law 376 = .ok (.iconst 0, 1) := by decide +kernel
theorem dL_law_377 : decode cL_law 377 = .ok (.ireturn, 1) := by decide +kernel
theorem dL_law_378 : decode cL_law 378 = .ok (.iconst 0, 1) := by decide +kernel
theorem dL_law_379 : decode cL_law 379 = .ok (.istore 4, 2) := by decide +kernel
theorem dL_law_381 : decode cL_law 381 = .ok (.iload 4, 2) := by decide +kernel
theorem dL_law_383 : decode cL_law 383 = .ok (.iload_n 3, 1) := by decide +kernel
theorem dL_law_384 : decode cL_law 384 = .ok (.if_icmp .ge 39, 3) := by decide +kernel
theorem dL_law_387 : decode cL_law 387 = .ok (.aload_n 1, 1) := by decide +kernel
theorem dL_law_388 : decode cL_law 388 = .ok (.aload_n 0, 1) := by decide +kernel
theorem dL_law_389 : decode cL_law 389 = .ok (.bipush 16, 2) := by decide +kernel
theorem dL_law_391 : decode cL_law 391 = .ok (.iload 4, 2) := by decide +kernel
theorem dL_law_393 : decode cL_law 393 = .ok (.iadd, 1) := by decide +kernel
theorem dL_law_394 : decode cL_law 394 = .ok (.invokestatic 128, 3) := by decide +kernel
theorem dL_law_397 : decode cL_law 397 = .ok (.invokevirtual 89, 3) := by decide +kernel
theorem dL_law_400 : decode cL_law 400 = .ok (.iload 4, 2) := by decide +kernel
theorem dL_law_402 : decode cL_law 402 = .ok (.if_icmp .ne 13, 3) := by decide +kernel
theorem dL_law_405 : decode cL_law 405 = .ok (.aload_n 1, 1) := by decide +kernel
theorem dL_law_406 : decode cL_law 406 = .ok (.iload 4, 2) := by decide +kernel
theorem dL_law_408 : decode cL_law 408 = .ok (.iload_n 2, 1) := by decide +kernel
theorem dL_law_409 : decode cL_law 409 = .ok (.invokestatic 135, 3) := by decide +kernel
theorem dL_law_412 : decode cL_law 412 = .ok (.ifCond .ne 5, 3) := by decide +kernel
theorem dL_law_415 : decode cL_law 415 = .ok (.iconst 0, 1) := by decide +kernel
theorem dL_law_416 : decode cL_law 416 = .ok (.ireturn, 1) := by decide +kernel
theorem dL_law_417 : decode cL_law 417 = .ok (.iinc 4 1, 3) := by decide +kernel
theorem dL_law_420 : decode cL_law 420 = .ok (.goto (-39), 3) := by decide +kernel
theorem dL_law_423 : decode cL_law 423 = .ok (.aload_n 1, 1) := by decide +kernel
theorem dL_law_424 : decode cL_law 424 = .ok (.aload_n 0, 1) := by decide +kernel
theorem dL_law_425 : decode cL_law 425 = .ok (.bipush 19, 2) := by decide +kernel
theorem dL_law_427 : decode cL_law 427 = .ok (.invokestatic 128, 3) := by decide +kernel
theorem dL_law_430 : decode cL_law 430 = .ok (.iconst 1, 1) := by decide +kernel
theorem dL_law_431 : decode cL_law 431 = .ok (.aload_n 0, 1) := by decide +kernel
theorem dL_law_432 : decode cL_law 432 = .ok (.bipush 15, 2) := by decide +kernel
theorem dL_law_434 : decode cL_law 434 = .ok (.invokestatic 128, 3) := by decide +kernel
theorem dL_law_437 : decode cL_law 437 = .ok (.bipush 9, 2) := by decide +kernel
theorem dL_law_439 : decode cL_law 439 = .ok (.ishr, 1) := by decide +kernel
theorem dL_law_440 : decode cL_law 440 = .ok (.bipush 6, 2) := by decide +kernel
theorem dL_law_442 : decode cL_law 442 = .ok (.invokestatic 132, 3) := by decide +kernel
theorem dL_law_445 : decode cL_law 445 = .ok (.iadd, 1) := by decide +kernel
theorem dL_law_446 : decode cL_law 446 = .ok (.invokevirtual 45, 3) := by decide +kernel
theorem dL_law_449 : decode cL_law 449 = .ok (.lstore 4, 2) := by decide +kernel
theorem dL_law_451 : decode cL_law 451 = .ok (.lload 4, 2) := by decide +kernel
theorem dL_law_453 : decode cL_law 453 = .ok (.aload_n 0, 1) := by decide +kernel
theorem dL_law_454 : decode cL_law 454 = .ok (.bipush 19, 2) := by decide +kernel
theorem dL_law_456 : decode cL_law 456 = .ok (.invokestatic 128, 3) := by decide +kernel
theorem dL_law_459 : decode cL_law 459 = .ok (.i2l, 1) := by decide +kernel
theorem dL_law_460 : decode cL_law 460 = .ok (.lcmp, 1) := by decide +kernel
theorem dL_law_461 : decode cL_law 461 = .ok (.ifCond .lt 62, 3) := by decide +kernel
theorem dL_law_464 : decode cL_law 464 = .ok (.lload 4, 2) := by decide +kernel
theorem dL_law_466 : decode cL_law 466 = .ok (.aload_n 0, 1) := by decide +kernel
theorem dL_law_467 : decode cL_law 467 = .ok (.bipush 19, 2) := by decide +kernel
theorem dL_law_469 : decode cL_law 469 = .ok (.invokestatic 128, 3) := by decide +kernel
theorem dL_law_472 : decode cL_law 472 = .ok (.i2l, 1) := by decide +kernel
theorem dL_law_473 : decode cL_law 473 = .ok (.ldc2_w 137, 3) := by decide +kernel
theorem dL_law_476 : decode cL_law 476 = .ok (.ladd, 1) := by decide +kernel
theorem dL_law_477 : decode cL_law 477 = .ok (.lcmp, 1) := by decide +kernel
theorem dL_law_478 : decode cL_law 478 = .ok (.ifCond .gt 45, 3) := by decide +kernel
theorem dL_law_481 : decode cL_law 481 = .ok (.aload_n 1, 1) := by decide +kernel
theorem dL_law_482 : decode cL_law 482 = .ok (.iconst 0, 1) := by decide +kernel
theorem dL_law_483 : decode cL_law 483 = .ok (.iload_n 3, 1) := by decide +kernel
theorem dL_law_484 : decode cL_law 484 = .ok (.iconst 1, 1) := by decide +kernel
theorem dL_law_485 : decode cL_law 485 = .ok (.isub, 1) := by decide +kernel
theorem dL_law_486 : decode cL_law 486 = .ok (.iconst 1, 1) := by decide +kernel
theorem dL_law_487 : decode cL_law 487 = .ok (.invokevirtual 42, 3) := by decide +kernel
theorem dL_law_490 : decode cL_law 490 = .ok (.aload_n 1, 1) := by decide +kernel
theorem dL_law_491 : decode cL_law 491 = .ok (.iload_n 3, 1) := by decide +kernel
theorem dL_law_492 : decode cL_law 492 = .ok (.iconst 1, 1) := by decide +kernel
theorem dL_law_493 : decode cL_law 493 = .ok (.isub, 1) := by decide +kernel
theorem dL_law_494 : decode cL_law 494 = .ok (.iconst 0, 1) := by decide +kernel
theorem dL_law_495 : decode cL_law 495 = .ok (.iconst 1, 1) := by decide +kernel
theorem dL_law_496 : decode cL_law 496 = .ok (.invokevirtual 42, 3) := by decide +kernel
theorem dL_law_499 : decode cL_law 499 = .ok (.if_icmp .ne 24, 3) := by decide +kernel
theorem dL_law_502 : decode cL_law 502 = .ok (.aload_n 1, 1) := by decide +kernel
theorem dL_law_503 : decode cL_law 503 = .ok (.iconst 0, 1) := by decide +kernel
theorem dL_law_504 : decode cL_law 504 = .ok (.iload_n 3, 1) := by decide +kernel
theorem dL_law_505 : decode cL_law 505 = .ok (.iconst 1, 1) := by decide +kernel
theorem dL_law_506 : decode cL_law 506 = .ok (.isub, 1) := by decide +kernel
theorem dL_law_507 : decode cL_law 507 = .ok (.iconst 2, 1) := by decide +kernel
theorem dL_law_508 : decode cL_law 508 = .ok (.invokevirtual 42, 3) := by decide +kernel
theorem dL_law_511 : decode cL_law 511 = .ok (.aload_n 1, 1) := by decide +kernel
theorem dL_law_512 : decode cL_law 512 = .ok (.iload_n 3, 1) := by decide +kernel
theorem dL_law_513 : decode cL_law 513 = .ok (.iconst 1, 1) := by decide +kernel
theorem dL_law_514 : decode cL_law 514 = .ok (.isub, 1) := by decide +kernel
theorem dL_law_515 : decode cL_law 515 = .ok (.iconst 0, 1) := by decide +kernel
theorem dL_law_516 : decode cL_law 516 = .ok (.iconst 2, 1) := by decide +kernel
theorem dL_law_517 : decode cL_law 517 = .ok (.invokevirtual 42, 3) := by decide +kernel
theorem dL_law_520 : decode cL_law 520 = .ok (.if_icmp .eq 20, 3) := by decide +kernel
theorem dL_law_523 : decode cL_law 523 = .ok (.aload_n 0, 1) := by decide +kernel
theorem dL_law_524 : decode cL_law 524 = .ok (.bipush 19, 2) := by decide +kernel
theorem dL_law_526 : decode cL_law 526 = .ok (.invokestatic 128, 3) := by decide +kernel
theorem dL_law_529 : decode cL_law 529 = .ok (.ldc 139, 2) := by decide +kernel
theorem dL_law_531 : decode cL_law 531 = .ok (.if_icmp .le 7, 3) := by decide +kernel
theorem dL_law_534 : decode cL_law 534 = .ok (.iconst 1, 1) := by decide +kernel
theorem dL_law_535 : decode cL_law 535 = .ok (.goto 4, 3) := by decide +kernel
theorem dL_law_538 : decode cL_law 538 = .ok (.iconst 0, 1) := by decide +kernel
theorem dL_law_539 : decode cL_law 539 = .ok (.ireturn, 1) := by decide +kernel
theorem dL_law_540 : decode cL_law 540 = .ok (.aload_n 0, 1) := by decide +kernel
theorem dL_law_541 : decode cL_law 541 = .ok (.bipush 20, 2) := by decide +kernel
theorem dL_law_543 : decode cL_law 543 = .ok (.invokestatic 128, 3) := by decide +kernel
theorem dL_law_546 : decode cL_law 546 = .ok (.iload_n 2, 1) := by decide +kernel
theorem dL_law_547 : decode cL_law 547 = .ok (.invokestatic 132, 3) := by decide +kernel
theorem dL_law_550 : decode cL_law 550 = .ok (.istore 6, 2) := by decide +kernel
theorem dL_law_552 : decode cL_law 552 = .ok (.aload_n 1, 1) := by decide +kernel
theorem dL_law_553 : decode cL_law 553 = .ok (.iload 6, 2) := by decide +kernel
theorem dL_law_555 : decode cL_law 555 = .ok (.iconst 3, 1) := by decide +kernel
theorem dL_law_556 : decode cL_law 556 = .ok (.aload_n 0, 1) := by decide +kernel
theorem dL_law_557 : decode cL_law 557 = .ok (.bipush 20, 2) := by decide +kernel
theorem dL_law_559 : decode cL_law 559 = .ok (.invokestatic 128, 3) := by decide +kernel
theorem dL_law_562 : decode cL_law 562 = .ok (.iconst 5, 1) := by decide +kernel
theorem dL_law_563 : decode cL_law 563 = .ok (.ishr, 1) := by decide +kernel
theorem dL_law_564 : decode cL_law 564 = .ok (.bipush 6, 2) := by decide +kernel
theorem dL_law_566 : decode cL_law 566 = .ok (.invokestatic 132, 3) := by decide +kernel
theorem dL_law_569 : decode cL_law 569 = .ok (.invokevirtual 25, 3) := by decide +kernel
theorem dL_law_572 : decode cL_law 572 = .ok (.ifCond .lt 53, 3) := by decide +kernel
theorem dL_law_575 : decode cL_law 575 = .ok (.aload_n 1, 1) := by decide +kernel
theorem dL_law_576 : decode cL_law 576 = .ok (.iconst 0, 1) := by decide +kernel
theorem dL_law_577 : decode cL_law 577 = .ok (.iload_n 2, 1) := by decide +kernel
theorem dL_law_578 : decode cL_law 578 = .ok (.invokestatic 135, 3) := by decide +kernel
theorem dL_law_581 : decode cL_law 581 = .ok (.ifCond .eq 44, 3) := by decide +kernel
theorem dL_law_584 : decode cL_law 584 = .ok (.iload_n 2, 1) := by decide +kernel
theorem dL_law_585 : decode cL_law 585 = .ok (.iconst 3, 1) := by decide +kernel
theorem dL_law_586 : decode cL_law 586 = .ok (.if_icmp .le 41, 3) := by decide +kernel
theorem dL_law_589 : decode cL_law 589 = .ok (.aload_n 1, 1) := by decide +kernel
theorem dL_law_590 : decode cL_law 590 = .ok (.aload_n 0, 1) := by decide +kernel
theorem dL_law_591 : decode cL_law 591 = .ok (.bipush 20, 2) := by decide +kernel
theorem dL_law_593 : decode cL_law 593 = .ok (.invokestatic 128, 3) := by decide +kernel
theorem dL_law_596 : decode cL_law 596 = .ok (.bipush 9, 2) := by decide +kernel
theorem dL_law_598 : decode cL_law 598 = .ok (.ishr, 1) := by decide +kernel
theorem dL_law_599 : decode cL_law 599 = .ok (.iload_n 2, 1) := by decide +kernel
theorem dL_law_600 : decode cL_law 600 = .ok (.invokestatic 132, 3) := by decide +kernel
theorem dL_law_603 : decode cL_law 603 = .ok (.invokevirtual 21, 3) := by decide +kernel
theorem dL_law_606 : decode cL_law 606 = .ok (.iload_n 2, 1) := by decide +kernel
theorem dL_law_607 : decode cL_law 607 = .ok (.iconst 1, 1) := by decide +kernel
theorem dL_law_608 : decode cL_law 608 = .ok (.isub, 1) := by decide +kernel
theorem dL_law_609 : decode cL_law 609 = .ok (.if_icmp .ne 16, 3) := by decide +kernel
theorem dL_law_612 : decode cL_law 612 = .ok (.aload_n 1, 1) := by decide +kernel
theorem dL_law_613 : decode cL_law 613 = .ok (.iload_n 3, 1) := by decide +kernel
theorem dL_law_614 : decode cL_law 614 = .ok (.iconst 1, 1) := by decide +kernel
theorem dL_law_615 : decode cL_law 615 = .ok (.isub, 1) := by decide +kernel
theorem dL_law_616 : decode cL_law 616 = .ok (.iload_n 2, 1) := by decide +kernel
theorem dL_law_617 : decode cL_law 617 = .ok (.iconst 1, 1) := by decide +kernel
theorem dL_law_618 : decode cL_law 618 = .ok (.isub, 1) := by decide +kernel
theorem dL_law_619 : decode cL_law 619 = .ok (.invokestatic 135, 3) := by decide +kernel
theorem dL_law_622 : decode cL_law 622 = .ok (.ifCond .ne 5, 3) := by decide +kernel
theorem dL_law_625 : decode cL_law 625 = .ok (.iconst 0, 1) := by decide +kernel
theorem dL_law_626 : decode cL_law 626 = .ok (.ireturn, 1) := by decide +kernel
theorem dL_law_627 : decode cL_law 627 = .ok (.aload_n 1, 1) := by decide +kernel
theorem dL_law_628 : decode cL_law 628 = .ok (.invokevirtual 113, 3) := by decide +kernel
theorem dL_law_631 : decode cL_law 631 = .ok (.istore_n 2, 1) := by decide +kernel
theorem dL_law_632 : decode cL_law 632 = .ok (.iconst 2, 1) := by decide +kernel
theorem dL_law_633 : decode cL_law 633 = .ok (.aload_n 0, 1) := by decide +kernel
theorem dL_law_634 : decode cL_law 634 = .ok (.bipush 21, 2) := by decide +kernel
theorem dL_law_636 : decode cL_law 636 = .ok (.invokestatic 128, 3) := by decide +kernel
theorem dL_law_639 : decode cL_law 639 = .ok (.iconst 5, 1) := by decide +kernel
theorem dL_law_640 : decode cL_law 640 = .ok (.invokestatic 132, 3) := by decide +kernel
theorem dL_law_643 : decode cL_law 643 = .ok (.iadd, 1) := by decide +kernel
theorem dL_law_644 : decode cL_law 644 = .ok (.istore 7, 2) := by decide +kernel
theorem dL_law_646 : decode cL_law 646 = .ok (.iconst 0, 1) := by decide +kernel
theorem dL_law_647 : decode cL_law 647 = .ok (.istore 8, 2) := by decide +kernel
theorem dL_law_649 : decode cL_law 649 = .ok (.iload 8, 2) := by decide +kernel
theorem dL_law_651 : decode cL_law 651 = .ok (.iload 7, 2) := by decide +kernel
theorem dL_law_653 : decode cL_law 653 = .ok (.if_icmp .ge 59, 3) := by decide +kernel
theorem dL_law_656 : decode cL_law 656 = .ok (.aload_n 1, 1) := by decide +kernel
theorem dL_law_657 : decode cL_law 657 = .ok (.aload_n 0, 1) := by decide +kernel
theorem dL_law_658 : decode cL_law 658 = .ok (.bipush 22, 2) := by decide +kernel
theorem dL_law_660 : decode cL_law 660 = .ok (.iload 8, 2) := by decide +kernel
theorem dL_law_662 : decode cL_law 662 = .ok (.iadd, 1) := by decide +kernel
theorem dL_law_663 : decode cL_law 663 = .ok (.invokestatic 128, 3) := by decide +kernel
theorem dL_law_666 : decode cL_law 666 = .ok (.iload_n 3, 1) := by decide +kernel
theorem dL_law_667 : decode cL_law 667 = .ok (.invokestatic 132, 3) := by decide +kernel
theorem dL_law_670 : decode cL_law 670 = .ok (.aload_n 0, 1) := by decide +kernel
theorem dL_law_671 : decode cL_law 671 = .ok (.bipush 22, 2) := by decide +kernel
theorem dL_law_673 : decode cL_law 673 = .ok (.iload 8, 2) := by decide +kernel
theorem dL_law_675 : decode cL_law 675 = .ok (.iadd, 1) := by decide +kernel
theorem dL_law_676 : decode cL_law 676 = .ok (.invokestatic 128, 3) := by decide +kernel
theorem dL_law_679 : decode cL_law 679 = .ok (.aload_n 0, 1) := by decide +kernel
theorem dL_law_680 : decode cL_law 680 = .ok (.bipush 22, 2) := by decide +kernel
theorem dL_law_682 : decode cL_law 682 = .ok (.iload 8, 2) := by decide +kernel
theorem dL_law_684 : decode cL_law 684 = .ok (.iadd, 1) := by decide +kernel
theorem dL_law_685 : decode cL_law 685 = .ok (.invokestatic 128, 3) := by decide +kernel
theorem dL_law_688 : decode cL_law 688 = .ok (.bipush 7, 2) := by decide +kernel
theorem dL_law_690 : decode cL_law 690 = .ok (.ishr, 1) := by decide +kernel
theorem dL_law_691 : decode cL_law 691 = .ok (.bipush 11, 2) := by decide +kernel
theorem dL_law_693 : decode cL_law 693 = .ok (.invokestatic 132, 3) := by decide +kernel
theorem dL_law_696 : decode cL_law 696 = .ok (.invokevirtual 66, 3) := by decide +kernel
theorem dL_law_699 : decode cL_law 699 = .ok (.iload 8, 2) := by decide +kernel
theorem dL_law_701 : decode cL_law 701 = .ok (.if_icmp .eq 5, 3) := by decide +kernel
theorem dL_law_704 : decode cL_law 704 = .ok (.iconst 0, 1) := by decide +kernel
theorem dL_law_705 : decode cL_law 705 = .ok (.ireturn, 1) := by decide +kernel
theorem dL_law_706 : decode cL_law 706 = .ok (.iinc 8 1, 3) := by decide +kernel
theorem dL_law_709 : decode cL_law 709 = .ok (.goto (-60), 3) := by decide +kernel
theorem dL_law_712 : decode cL_law 712 = .ok (.aload_n 1, 1) := by decide +kernel
theorem dL_law_713 : decode cL_law 713 = .ok (.iload_n 2, 1) := by decide +kernel
theorem dL_law_714 : decode cL_law 714 = .ok (.iload 7, 2) := by decide +kernel
theorem dL_law_716 : decode cL_law 716 = .ok (.invokestatic 140, 3) := by decide +kernel
theorem dL_law_719 : decode cL_law 719 = .ok (.ifCond .eq 83, 3) := by decide +kernel
theorem dL_law_722 : decode cL_law 722 = .ok (.aload_n 1, 1) := by decide +kernel
theorem dL_law_723 : decode cL_law 723 = .ok (.iload_n 2, 1) := by decide +kernel
theorem dL_law_724 : decode cL_law 724 = .ok (.iload_n 3, 1) := by decide +kernel
theorem dL_law_725 : decode cL_law 725 = .ok (.iload 7, 2) := by decide +kernel
theorem dL_law_727 : decode cL_law 727 = .ok (.invokestatic 124, 3) := by decide +kernel
theorem dL_law_730 : decode cL_law 730 = .ok (.ifCond .eq 72, 3) := by decide +kernel
theorem dL_law_733 : decode cL_law 733 = .ok (.aload_n 1, 1) := by decide +kernel
theorem dL_law_734 : decode cL_law 734 = .ok (.invokevirtual 119, 3) := by decide +kernel
theorem dL_law_737 : decode cL_law 737 = .ok (.iload 7, 2) := by decide +kernel
theorem dL_law_739 : decode cL_law 739 = .ok (.if_icmp .ne 63, 3) := by decide +kernel
theorem dL_law_742 : decode cL_law 742 = .ok (.aload_n 1, 1) := by decide +kernel
theorem dL_law_743 : decode cL_law 743 = .ok (.invokevirtual 110, 3) := by decide +kernel
theorem dL_law_746 : decode cL_law 746 = .ok (.ifCond .lt 56, 3) := by decide +kernel
theorem dL_law_749 : decode cL_law 749 = .ok (.aload_n 1, 1) := by decide +kernel
theorem dL_law_750 : decode cL_law 750 = .ok (.invokevirtual 105, 3) := by decide +kernel
theorem dL_law_753 : decode cL_law 753 = .ok (.iload_n 2, 1) := by decide +kernel
theorem dL_law_754 : decode cL_law 754 = .ok (.ineg, 1) := by decide +kernel
theorem dL_law_755 : decode cL_law 755 = .ok (.i2f, 1) := by decide +kernel
theorem dL_law_756 : decode cL_law 756 = .ok (.fcmp .l, 1) := by decide +kernel
theorem dL_law_757 : decode cL_law 757 = .ok (.ifCond .lt 45, 3) := by decide +kernel
theorem dL_law_760 : decode cL_law 760 = .ok (.aload_n 1, 1) := by decide +kernel
theorem dL_law_761 : decode cL_law 761 = .ok (.iload_n 2, 1) := by decide +kernel
theorem dL_law_762 : decode cL_law 762 = .ok (.iload 7, 2) := by decide +kernel
theorem dL_law_764 : decode cL_law 764 = .ok (.invokestatic 140, 3) := by decide +kernel
theorem dL_law_767 : decode cL_law 767 = .ok (.ifCond .eq 35, 3) := by decide +kernel
theorem dL_law_770 : decode cL_law 770 = .ok (.aload_n 1, 1) := by decide +kernel
theorem dL_law_771 : decode cL_law 771 = .ok (.bipush 70, 2) := by decide +kernel
theorem dL_law_773 : decode cL_law 773 = .ok (.invokevirtual 60, 3) := by decide +kernel
theorem dL_law_776 : decode cL_law 776 = .ok (.iconst 1, 1) := by decide +kernel
theorem dL_law_777 : decode cL_law 777 = .ok (.if_icmp .ne 25, 3) := by decide +kernel
theorem dL_law_780 : decode cL_law 780 = .ok (.aload_n 1, 1) := by decide +kernel
theorem dL_law_781 : decode cL_law 781 = .ok (.iconst 0, 1) := by decide +kernel
theorem dL_law_782 : decode cL_law 782 = .ok (.invokevirtual 63, 3) := by decide +kernel
theorem dL_law_785 : decode cL_law 785 = .ok (.bipush (-100), 2) := by decide +kernel
theorem dL_law_787 : decode cL_law 787 = .ok (.if_icmp .ne 15, 3) := by decide +kernel
theorem dL_law_790 : decode cL_law 790 = .ok (.aload_n 1, 1) := by decide +kernel
theorem dL_law_791 : decode cL_law 791 = .ok (.invokevirtual 143, 3) := by decide +kernel
theorem dL_law_794 : decode cL_law 794 = .ok (.iconst 1, 1) := by decide +kernel
theorem dL_law_795 : decode cL_law 795 = .ok (.if_icmp .ne 7, 3) := by decide +kernel
theorem dL_law_798 : decode cL_law 798 = .ok (.iconst 1, 1) := by decide +kernel
theorem dL_law_799 : decode cL_law 799 = .ok (.goto 4, 3) := by decide +kernel
theorem dL_law_802 : decode cL_law 802 = .ok (.iconst 0, 1) := by decide +kernel
theorem dL_law_803 : decode cL_law 803 = .ok (.ireturn, 1) := by decide +kernel
